/-! THE REFERENCE: arc -/
section MARC
variable {G : hx_G} {M M1 : hx_S} {m : Nat} {B : Nat → Nat} {ρ ρ' : hr_S} {σ σ' : hs_S} {T : List TK} {i c na d o : Nat} {x y z : V2} {th : Int32} {K : Nat → Int32} {V : Nat → Int64}
theorem HNd.arc {s j p : Nat} (h : HNd ρ (sN σ)) (hG : GS σ) (hi : i < (sN σ).length) (hl : (nd σ i).2.2.length < 6) (a : AG [0, 4, 5, 6, 7] ρ ρ') (h4 : ρ'.2.1 4 = upd (ρ.2.1 4) i (nI ((nd σ i).2.2.length + 1))) (h5 : ρ'.2.1 5 = upd (ρ.2.1 5) (6 * i + (nd σ i).2.2.length) (nI s)) (h6 : ρ'.2.1 6 = upd (ρ.2.1 6) (6 * i + (nd σ i).2.2.length) (nI j)) (h7 : ρ'.2.1 7 = upd (ρ.2.1 7) (6 * i + (nd σ i).2.2.length) (nI p)) : HNd ρ' (sN (addA σ i s j p)) := by
  refine ⟨by rw [(a 1 (by decide)).1, len_arc]; exact h.1, fun k x hx => ?_⟩
  rw [at_arc k hi] at hx
  rw [(a 2 (by decide)).2.1, (a 3 (by decide)).2.1, h4, h5, h6, h7]
  by_cases e : i = k
  · rw [if_pos e] at hx
    cases hx
    subst e
    obtain ⟨b1, b2, b3, b4⟩ := h.2 i _ (nd_at hi)
    refine ⟨b1, b2, ?_, fun q w hw => ?_⟩
    · rw [pk_us]
      show _ = nI ((nd σ i).2.2 ++ [(s, j, p)]).length
      rw [List.length_append, List.length_singleton]
    · have hw' : ((nd σ i).2.2 ++ [(s, j, p)])[q]? = some w := hw
      by_cases hq : q < (nd σ i).2.2.length
      · rw [List.getElem?_append_left hq] at hw'
        rw [pk_un (by omega), pk_un (by omega), pk_un (by omega)]
        exact b4 q w hw'
      · rw [List.getElem?_append_right (by omega)] at hw'
        have zz := (List.getElem?_eq_some_iff.mp hw').1
        rw [List.length_singleton] at zz
        obtain rfl : q = (nd σ i).2.2.length := by omega
        rw [show (nd σ i).2.2.length - (nd σ i).2.2.length = 0 by omega] at hw'
        cases hw'
        exact ⟨pk_us, pk_us, pk_us⟩
  · rw [if_neg e] at hx
    obtain ⟨b1, b2, b3, b4⟩ := h.2 k x hx
    have hl6 := (hG.2.1 k x hx).2.1
    refine ⟨b1, b2, by rw [pk_un (by omega)]; exact b3, fun q w hw => ?_⟩
    have hq := (List.getElem?_eq_some_iff.mp hw).1
    rw [pk_un (by omega), pk_un (by omega), pk_un (by omega)]
    exact b4 q w hw
theorem ct_marc {f sd t pt : Int32} (h : RM M m B σ th K V) (hG : GS σ) : CT G 1 21 mX10_arc [.ref m, .int f, .int sd, .int t, .int pt] M (fun r M1 => r = some (.int (if arcC σ f sd t pt then 1 else 0)) ∧ RM M1 m B (arcS σ f sd t pt) 0 K V ∧ EF M M1 m B) := by
  obtain ⟨P, hP⟩ : ∃ P : Option Value → hx_S → Prop, P = (fun r M1 => r = some (.int (if arcC σ f sd t pt then 1 else 0)) ∧ RM M1 m B (arcS σ f sd t pt) 0 K V ∧ EF M M1 m B) := ⟨_, rfl⟩
  rw [← hP]
  obtain ⟨ρ0, T0, hR0, h00, hAb0, hT0, hW0⟩ := id h
  have h40 := hG.1
  have hb1 := hG.2.2.2.2.2.2.2.2.1.2.2.2.2.2
  refine ct_go (by decide +kernel) (Nat.le_of_ble_eq_true rfl) (L := [(0, .ref m), (1, .int f), (2, .int sd), (3, .int t), (4, .int pt)]) rfl ?_
  refine xw_aload_n dX10_arc_0 rfl rfl ?_
  refine xw_iconst (v := 0) dX10_arc_1 (by decide) ?_
  refine xw_put (ci := 11) (k := 0) tyX10 dX10_arc_2 hR0.1 rfl inX10 tyX10_ok nmX10 (by decide) tw_791 (Or.inl rfl) rfl rfl rfl rfl (Nat.le_of_ble_eq_true rfl) ?_
  dsimp only [flM, List.set]
  have hR1 : RW (oput M 11 m (some [.int (0), .int (ρ0.1 1), .ref (B 2), .ref (B 3), .ref (B 4), .ref (B 5), .ref (B 6), .ref (B 7), .int (ρ0.1 8), .int (ρ0.1 9), .ref (B 10), .ref (B 11), .ref (B 12), .int (ρ0.1 13), .ref (B 14), .ref (B 15), .ref (B 16), .int (ρ0.1 17), .ref (B 18), .ref (B 19), .ref (B 20), .ref (B 21), .ref (B 22), .int (ρ0.1 23), .ref (B 24), .ref (B 25), .ref (B 26), .ref (B 27), .int (ρ0.1 28), .ref (B 29), .ref (B 30), .ref (B 31), .int (ρ0.1 32), .ref (B 33), .ref (B 34), .ref (B 35), .int (ρ0.1 36), .int (ρ0.1 37), .int (ρ0.1 38), .ref (B 39), .ref (B 40)])) m B (rS ρ0 0 0) := hR0.sset (k := 0) (v := 0)
  have hE1 : EF M (oput M 11 m (some [.int (0), .int (ρ0.1 1), .ref (B 2), .ref (B 3), .ref (B 4), .ref (B 5), .ref (B 6), .ref (B 7), .int (ρ0.1 8), .int (ρ0.1 9), .ref (B 10), .ref (B 11), .ref (B 12), .int (ρ0.1 13), .ref (B 14), .ref (B 15), .ref (B 16), .int (ρ0.1 17), .ref (B 18), .ref (B 19), .ref (B 20), .ref (B 21), .ref (B 22), .int (ρ0.1 23), .ref (B 24), .ref (B 25), .ref (B 26), .ref (B 27), .int (ρ0.1 28), .ref (B 29), .ref (B 30), .ref (B 31), .int (ρ0.1 32), .ref (B 33), .ref (B 34), .ref (B 35), .int (ρ0.1 36), .int (ρ0.1 37), .int (ρ0.1 38), .ref (B 39), .ref (B 40)])) m B := (EF.rf M m B).tr EF.o
  generalize oput M 11 m (some [.int (0), .int (ρ0.1 1), .ref (B 2), .ref (B 3), .ref (B 4), .ref (B 5), .ref (B 6), .ref (B 7), .int (ρ0.1 8), .int (ρ0.1 9), .ref (B 10), .ref (B 11), .ref (B 12), .int (ρ0.1 13), .ref (B 14), .ref (B 15), .ref (B 16), .int (ρ0.1 17), .ref (B 18), .ref (B 19), .ref (B 20), .ref (B 21), .ref (B 22), .int (ρ0.1 23), .ref (B 24), .ref (B 25), .ref (B 26), .ref (B 27), .int (ρ0.1 28), .ref (B 29), .ref (B 30), .ref (B 31), .int (ρ0.1 32), .ref (B 33), .ref (B 34), .ref (B 35), .int (ρ0.1 36), .int (ρ0.1 37), .int (ρ0.1 38), .ref (B 39), .ref (B 40)]) = M1 at hR1 hE1 ⊢
  have hRM : RM M1 m B σ 0 K V := RM.th' hR0 h00.2 hAb0 hT0 hW0 hR1
  obtain ⟨ρ, T, hR, h0, hAb, hT, hW⟩ := id hRM
  obtain ⟨hNd, hC, hAr, hRd, hK, hRs, hS1, hS2, hS3, hS4⟩ := id hAb
  generalize hMM : M1 = M2 at hRM hE1 hR ⊢
  clear hMM hR1
  have out95 : ¬ arcC σ f sd t pt → XW G 1 21 mX10_arc [.ref m, .int f, .int sd, .int t, .int pt] M P M2 95 [(0, .ref m), (1, .int f), (2, .int sd), (3, .int t), (4, .int pt)] [] := by
    intro hn
    refine xw_iconst (v := 0) dX10_arc_95 (by decide) ?_
    rw [hP]
    exact xw_zret rfl (by rfl) dX10_arc_96 ⟨by rw [if_neg hn], by unfold arcS; rw [if_neg hn]; exact hRM, hE1⟩
  have out41 : ¬ arcC σ f sd t pt → XW G 1 21 mX10_arc [.ref m, .int f, .int sd, .int t, .int pt] M P M2 41 [(0, .ref m), (1, .int f), (2, .int sd), (3, .int t), (4, .int pt)] [] := by
    intro hn
    refine xw_iconst (v := 0) dX10_arc_41 (by decide) ?_
    refine xw_istore (L2 := [(5, .int 0), (0, .ref m), (1, .int f), (2, .int sd), (3, .int t), (4, .int pt)]) dX10_arc_42 (by decide) rfl ?_
    refine xw_iload dX10_arc_44 rfl ?_
    refine xw_if_eq (tgt := 95) dX10_arc_46 (by decide) (fun _ => ?_) (fun zz => absurd (by decide) zz)
    refine xw_mem (L2 := [(0, .ref m), (1, .int f), (2, .int sd), (3, .int t), (4, .int pt)]) (by simp) ?_
    exact xw_pc rfl (out95 hn)
  refine xw_aload_n dX10_arc_5 rfl rfl ?_
  refine xw_iload_n dX10_arc_6 rfl rfl ?_
  refine xw_callV (q2 := mX10_isNode) (n2 := 1) (ci := 11) (Bs := [.int f]) (rest := []) (ct_misNode hR hNd.1) dX10_arc_7 rfl (o_at hR.1) rfl rfl tw_932 tw_934 tw_19 tw_47 tw_935 (by decide +kernel) rfl (Nat.le_of_ble_eq_true rfl) (Nat.le_of_ble_eq_true rfl) (Nat.le_of_ble_eq_true rfl) (fun rr M1 hr hle1 => ?_)
  obtain ⟨rfl, hM1⟩ := hr
  obtain rfl := hM1.symm
  by_cases hf : inN σ f
  · rw [if_pos hf]
    refine xw_if_eq (tgt := 41) dX10_arc_10 (by decide) (fun zz => absurd zz (by decide)) (fun _ => ?_)
    refine xw_aload_n dX10_arc_13 rfl rfl ?_
    refine xw_iload_n dX10_arc_14 rfl rfl ?_
    refine xw_callV (q2 := mX10_isNode) (n2 := 1) (ci := 11) (Bs := [.int t]) (rest := []) (ct_misNode hR hNd.1) dX10_arc_15 rfl (o_at hR.1) rfl rfl tw_932 tw_934 tw_19 tw_47 tw_935 (by decide +kernel) rfl (Nat.le_of_ble_eq_true rfl) (Nat.le_of_ble_eq_true rfl) (Nat.le_of_ble_eq_true rfl) (fun rr M1 hr hle1 => ?_)
    obtain ⟨rfl, hM1⟩ := hr
    obtain rfl := hM1.symm
    by_cases ht : inN σ t
    · rw [if_pos ht]
      refine xw_if_eq (tgt := 41) dX10_arc_18 (by decide) (fun zz => absurd zz (by decide)) (fun _ => ?_)
      refine xw_aload_n dX10_arc_21 rfl rfl ?_
      refine xw_get (ci := 11) (k := 8) (v := .int (ρ.1 8)) dX10_arc_22 hR.1 rfl inX10 (by decide) tw_799 (Or.inl rfl) rfl ?_
      rw [hS1]
      refine xw_if_ne (tgt := 41) dX10_arc_25 (by decide) (fun d1 => ?_) (fun d1 => ?_)
      · exact xw_pc rfl (out41 (fun w => d1 (by rw [w.1]; rfl)))
      · have hb0 : sB σ = 0 := (nI_eq (by omega) (by decide)).mp (show nI (sB σ) = nI 0 from d1)
        refine xw_iload_n dX10_arc_28 rfl rfl ?_
        refine xw_pc (pc2 := 29) rfl ?_
        refine xw_if_lt (tgt := 41) dX10_arc_29 (by decide) (fun d2 => ?_) (fun d2 => ?_)
        · exact xw_pc rfl (out41 (fun w => by rcases w.2.2.2.1 with e | e; rw [e] at d2; exact absurd d2 (by decide); rw [e.1] at d2; exact absurd d2 (by decide)))
        · skip
          refine xw_iload_n dX10_arc_32 rfl rfl ?_
          refine xw_iconst (v := 1) dX10_arc_33 (by decide) ?_
          refine xw_icmp_gt (tgt := 41) dX10_arc_34 (by decide) (fun d3 => ?_) (fun d3 => ?_)
          · exact xw_pc rfl (out41 (fun w => by rcases w.2.2.2.1 with e | e; rw [e] at d3; exact absurd d3 (by decide); rw [e.1] at d3; exact absurd d3 (by decide)))
          · obtain ⟨i, hi, hfi, -⟩ := pk_mu hf.1 (show ¬ nI (sN σ).length ≤ f from fun z => absurd hf.2 (by rw [Int32.not_lt]; exact z)) (show (sN σ).length < 2 ^ 31 by omega)
            obtain ⟨j, hj, htj, -⟩ := pk_mu ht.1 (show ¬ nI (sN σ).length ≤ t from fun z => absurd ht.2 (by rw [Int32.not_lt]; exact z)) (show (sN σ).length < 2 ^ 31 by omega)
            obtain ⟨ss, hss, hse, -⟩ := pk_mu (L := 2) d2 (show ¬ nI 2 ≤ sd from fun z => d3 (Int32.lt_of_lt_of_le (show (1 : Int32) < nI 2 by decide +kernel) z)) (by decide)
            have hfc : f.toNatClampNeg = i := by rw [hfi, nI_clamp (by omega)]
            have htc : t.toNatClampNeg = j := by rw [htj, nI_clamp (by omega)]
            obtain ⟨n1, n2, n3, -⟩ := hNd.2 i _ (nd_at hi)
            obtain ⟨k1, -⟩ := hNd.2 j _ (nd_at hj)
            have hl6 := (hG.2.1 i _ (nd_at hi)).2.1
            have oi := (hG.2.1 i _ (nd_at hi)).1
            have oj := (hG.2.1 j _ (nd_at hj)).1
            have hp3 := pts_b σ j
            have i31 : i < 2 ^ 31 := by omega
            have j31 : j < 2 ^ 31 := by omega
            have ini : vp_in (nI i) 40 := vp_in_nI (by omega) (by decide)
            have inj : vp_in (nI j) 40 := vp_in_nI (by omega) (by decide)
            -- behind the question of the side
            have rest : (sd = 0 ∨ (sd = 1 ∧ (nd σ f.toNatClampNeg).1 = 7)) → XW G 1 21 mX10_arc [.ref m, .int f, .int sd, .int t, .int pt] M P M2 65 [(0, .ref m), (1, .int f), (2, .int sd), (3, .int t), (4, .int pt)] [] := by
              intro hsd
              refine xw_iload dX10_arc_65 rfl ?_
              refine xw_if_lt (tgt := 95) dX10_arc_67 (by decide) (fun d4 => ?_) (fun d4 => ?_)
              · exact xw_pc rfl (out95 (fun w => w.2.2.2.2.1.1 d4))
              · skip
                refine xw_iload dX10_arc_70 rfl ?_
                refine xw_aload_n dX10_arc_72 rfl rfl ?_
                refine xw_get (ci := 11) (k := 2) (v := .ref (B 2)) dX10_arc_73 hR.1 rfl inX10 (by decide) tw_793 (Or.inl rfl) rfl ?_
                refine xw_iload_n dX10_arc_76 rfl rfl ?_
                rw [htj]
                refine xw_iald dX10_arc_77 (hR.2.1 2 rfl) inj ?_
                rw [show ρ.2.1 2 (nI j).toNatClampNeg = nI (nd σ j).1 by rw [nI_clamp j31]; exact k1]
                refine xw_callS (q2 := mX10_ports) (n2 := 1) (Bs := [.int (nI (nd σ j).1)]) (rest := [.int pt]) (ct_mports oj) dX10_arc_78 rfl tw_936 tw_937 tw_47 tw_938 (by decide +kernel) rfl (Nat.le_of_ble_eq_true rfl) (Nat.le_of_ble_eq_true rfl) (Nat.le_of_ble_eq_true rfl) (fun rr M1 hr hle1 => ?_)
                obtain ⟨rfl, hM1⟩ := hr
                obtain rfl := hM1.symm
                rw [← htj]
                refine xw_icmp_ge (tgt := 95) dX10_arc_81 (by decide) (fun d5 => ?_) (fun d5 => ?_)
                · exact xw_pc rfl (out95 (fun w => w.2.2.2.2.1.2 (by rw [htc]; exact d5)))
                · obtain ⟨pp, hpp, hpe, -⟩ := pk_mu d4 (show ¬ nI (pts σ j) ≤ pt from d5) (show pts σ j < 2 ^ 31 by omega)
                  have hpc : pt.toNatClampNeg = pp := by rw [hpe, nI_clamp (by omega)]
                  have hsc : sd.toNatClampNeg = ss := by rw [hse, nI_clamp (by omega)]
                  refine xw_aload_n dX10_arc_84 rfl rfl ?_
                  refine xw_get (ci := 11) (k := 4) (v := .ref (B 4)) dX10_arc_85 hR.1 rfl inX10 (by decide) tw_795 (Or.inl rfl) rfl ?_
                  refine xw_iload_n dX10_arc_88 rfl rfl ?_
                  rw [hfi]
                  refine xw_iald dX10_arc_89 (hR.2.1 4 rfl) ini ?_
                  rw [show ρ.2.1 4 (nI i).toNatClampNeg = nI (nd σ i).2.2.length by rw [nI_clamp i31]; exact n3]
                  rw [← hfi]
                  refine xw_bipush (v := 6) dX10_arc_90 (by decide) ?_
                  refine xw_icmp_ne (tgt := 97) dX10_arc_92 (by decide) (fun d6 => ?_) (fun d6 => ?_)
                  · have l6 : (nd σ i).2.2.length < 6 := by
                      rcases Nat.lt_or_ge (nd σ i).2.2.length 6 with w | w
                      · exact w
                      · exact absurd (show nI (nd σ i).2.2.length = nI 6 by rw [show (nd σ i).2.2.length = 6 by omega]) d6
                    have hCC : arcC σ f sd t pt := ⟨hb0, hf, ht, hsd, ⟨d4, by rw [htc]; exact d5⟩, by rw [hfc]; exact l6⟩
                    have m6 : 6 * nI i + nI (nd σ i).2.2.length = nI (6 * i + (nd σ i).2.2.length) := by rw [show (6 : Int32) = nI 6 from by decide +kernel, pk_mul, nI_add]
                    have ink : vp_in (nI (6 * i + (nd σ i).2.2.length)) 240 := vp_in_nI (by omega) (by decide)
                    have q31 : 6 * i + (nd σ i).2.2.length < 2 ^ 31 := by omega
                    have hPe : P = (fun r M1 => r = some (.int 1) ∧ RM M1 m B (addA σ i ss j pp) 0 K V ∧ EF M M1 m B) := by
                      rw [hP]
                      funext r M1
                      unfold arcS
                      rw [if_pos hCC, if_pos hCC, hfc, hsc, htc, hpc]
                    rw [hPe]
                    clear out95 out41 hP hPe hCC
                    subst hfi htj hse hpe
                    refine xw_bipush (v := 6) dX10_arc_97 (by decide) ?_
                    refine xw_iload_n dX10_arc_99 rfl rfl ?_
                    refine xw_imul dX10_arc_100 ?_
                    refine xw_aload_n dX10_arc_101 rfl rfl ?_
                    refine xw_get (ci := 11) (k := 4) (v := .ref (B 4)) dX10_arc_102 hR.1 rfl inX10 (by decide) tw_795 (Or.inl rfl) rfl ?_
                    refine xw_iload_n dX10_arc_105 rfl rfl ?_
                    refine xw_pc (pc2 := 106) rfl ?_
                    refine xw_iald dX10_arc_106 (hR.2.1 4 rfl) ini ?_
                    rw [nI_clamp i31]
                    rw [n3]
                    refine xw_iadd dX10_arc_107 ?_
                    rw [m6]
                    refine xw_istore (L2 := [(6, .int (nI (6 * i + (nd σ i).2.2.length))), (0, .ref m), (1, .int (nI i)), (2, .int (nI ss)), (3, .int (nI j)), (4, .int (nI pp))]) dX10_arc_108 (by decide) rfl ?_
                    refine xw_aload_n dX10_arc_110 rfl rfl ?_
                    refine xw_get (ci := 11) (k := 5) (v := .ref (B 5)) dX10_arc_111 hR.1 rfl inX10 (by decide) tw_796 (Or.inl rfl) rfl ?_
                    refine xw_iload dX10_arc_114 rfl ?_
                    refine xw_iload_n dX10_arc_116 rfl rfl ?_
                    refine xw_iast dX10_arc_117 (hR.2.1 5 rfl) ink ?_
                    rw [nI_clamp q31]
                    have hR3 : RW (iput M2 (B 5) (some (ilen 5, upd (ρ.2.1 5) (6 * i + (nd σ i).2.2.length) (nI ss)))) m B (rI ρ 5 (upd (ρ.2.1 5) (6 * i + (nd σ i).2.2.length) (nI ss))) := hR.iset rfl
                    have hE3 : EF M (iput M2 (B 5) (some (ilen 5, upd (ρ.2.1 5) (6 * i + (nd σ i).2.2.length) (nI ss)))) m B := hE1.tr (EF.i rfl)
                    generalize iput M2 (B 5) (some (ilen 5, upd (ρ.2.1 5) (6 * i + (nd σ i).2.2.length) (nI ss))) = M3 at hR3 hE3 ⊢
                    have hA3 := (AG.rf [0, 4, 5, 6, 7] ρ).i (k := 5) (f := (upd (ρ.2.1 5) (6 * i + (nd σ i).2.2.length) (nI ss))) (by decide)
                    refine xw_aload_n dX10_arc_118 rfl rfl ?_
                    refine xw_get (ci := 11) (k := 6) (v := .ref (B 6)) dX10_arc_119 hR3.1 rfl inX10 (by decide) tw_797 (Or.inl rfl) rfl ?_
                    refine xw_iload dX10_arc_122 rfl ?_
                    refine xw_iload_n dX10_arc_124 rfl rfl ?_
                    refine xw_iast dX10_arc_125 (hR3.2.1 6 rfl) ink ?_
                    rw [nI_clamp q31]
                    have hR4 : RW (iput M3 (B 6) (some (ilen 6, upd ((rI ρ 5 (upd (ρ.2.1 5) (6 * i + (nd σ i).2.2.length) (nI ss))).2.1 6) (6 * i + (nd σ i).2.2.length) (nI j)))) m B (rI (rI ρ 5 (upd (ρ.2.1 5) (6 * i + (nd σ i).2.2.length) (nI ss))) 6 (upd ((rI ρ 5 (upd (ρ.2.1 5) (6 * i + (nd σ i).2.2.length) (nI ss))).2.1 6) (6 * i + (nd σ i).2.2.length) (nI j))) := hR3.iset rfl
                    have hE4 : EF M (iput M3 (B 6) (some (ilen 6, upd ((rI ρ 5 (upd (ρ.2.1 5) (6 * i + (nd σ i).2.2.length) (nI ss))).2.1 6) (6 * i + (nd σ i).2.2.length) (nI j)))) m B := hE3.tr (EF.i rfl)
                    generalize iput M3 (B 6) (some (ilen 6, upd ((rI ρ 5 (upd (ρ.2.1 5) (6 * i + (nd σ i).2.2.length) (nI ss))).2.1 6) (6 * i + (nd σ i).2.2.length) (nI j))) = M4 at hR4 hE4 ⊢
                    have hA4 := hA3.i (k := 6) (f := (upd ((rI ρ 5 (upd (ρ.2.1 5) (6 * i + (nd σ i).2.2.length) (nI ss))).2.1 6) (6 * i + (nd σ i).2.2.length) (nI j))) (by decide)
                    refine xw_aload_n dX10_arc_126 rfl rfl ?_
                    refine xw_get (ci := 11) (k := 7) (v := .ref (B 7)) dX10_arc_127 hR4.1 rfl inX10 (by decide) tw_798 (Or.inl rfl) rfl ?_
                    refine xw_iload dX10_arc_130 rfl ?_
                    refine xw_iload dX10_arc_132 rfl ?_
                    refine xw_pc (pc2 := 134) rfl ?_
                    refine xw_iast dX10_arc_134 (hR4.2.1 7 rfl) ink ?_
                    rw [nI_clamp q31]
                    have hR5 : RW (iput M4 (B 7) (some (ilen 7, upd ((rI (rI ρ 5 (upd (ρ.2.1 5) (6 * i + (nd σ i).2.2.length) (nI ss))) 6 (upd ((rI ρ 5 (upd (ρ.2.1 5) (6 * i + (nd σ i).2.2.length) (nI ss))).2.1 6) (6 * i + (nd σ i).2.2.length) (nI j))).2.1 7) (6 * i + (nd σ i).2.2.length) (nI pp)))) m B (rI (rI (rI ρ 5 (upd (ρ.2.1 5) (6 * i + (nd σ i).2.2.length) (nI ss))) 6 (upd ((rI ρ 5 (upd (ρ.2.1 5) (6 * i + (nd σ i).2.2.length) (nI ss))).2.1 6) (6 * i + (nd σ i).2.2.length) (nI j))) 7 (upd ((rI (rI ρ 5 (upd (ρ.2.1 5) (6 * i + (nd σ i).2.2.length) (nI ss))) 6 (upd ((rI ρ 5 (upd (ρ.2.1 5) (6 * i + (nd σ i).2.2.length) (nI ss))).2.1 6) (6 * i + (nd σ i).2.2.length) (nI j))).2.1 7) (6 * i + (nd σ i).2.2.length) (nI pp))) := hR4.iset rfl
                    have hE5 : EF M (iput M4 (B 7) (some (ilen 7, upd ((rI (rI ρ 5 (upd (ρ.2.1 5) (6 * i + (nd σ i).2.2.length) (nI ss))) 6 (upd ((rI ρ 5 (upd (ρ.2.1 5) (6 * i + (nd σ i).2.2.length) (nI ss))).2.1 6) (6 * i + (nd σ i).2.2.length) (nI j))).2.1 7) (6 * i + (nd σ i).2.2.length) (nI pp)))) m B := hE4.tr (EF.i rfl)
                    generalize iput M4 (B 7) (some (ilen 7, upd ((rI (rI ρ 5 (upd (ρ.2.1 5) (6 * i + (nd σ i).2.2.length) (nI ss))) 6 (upd ((rI ρ 5 (upd (ρ.2.1 5) (6 * i + (nd σ i).2.2.length) (nI ss))).2.1 6) (6 * i + (nd σ i).2.2.length) (nI j))).2.1 7) (6 * i + (nd σ i).2.2.length) (nI pp))) = M5 at hR5 hE5 ⊢
                    have hA5 := hA4.i (k := 7) (f := (upd ((rI (rI ρ 5 (upd (ρ.2.1 5) (6 * i + (nd σ i).2.2.length) (nI ss))) 6 (upd ((rI ρ 5 (upd (ρ.2.1 5) (6 * i + (nd σ i).2.2.length) (nI ss))).2.1 6) (6 * i + (nd σ i).2.2.length) (nI j))).2.1 7) (6 * i + (nd σ i).2.2.length) (nI pp))) (by decide)
                    obtain ⟨ρ5, hρ5⟩ : ∃ ρ5, ρ5 = rI (rI (rI ρ 5 (upd (ρ.2.1 5) (6 * i + (nd σ i).2.2.length) (nI ss))) 6 (upd ((rI ρ 5 (upd (ρ.2.1 5) (6 * i + (nd σ i).2.2.length) (nI ss))).2.1 6) (6 * i + (nd σ i).2.2.length) (nI j))) 7 (upd ((rI (rI ρ 5 (upd (ρ.2.1 5) (6 * i + (nd σ i).2.2.length) (nI ss))) 6 (upd ((rI ρ 5 (upd (ρ.2.1 5) (6 * i + (nd σ i).2.2.length) (nI ss))).2.1 6) (6 * i + (nd σ i).2.2.length) (nI j))).2.1 7) (6 * i + (nd σ i).2.2.length) (nI pp)) := ⟨_, rfl⟩
                    rw [← hρ5] at hR5 hA5
                    have g5 : ρ5.1 = ρ.1 ∧ ρ5.2.1 4 = ρ.2.1 4 ∧ ρ5.2.1 5 = upd (ρ.2.1 5) (6 * i + (nd σ i).2.2.length) (nI ss) ∧ ρ5.2.1 6 = upd (ρ.2.1 6) (6 * i + (nd σ i).2.2.length) (nI j) ∧ ρ5.2.1 7 = upd (ρ.2.1 7) (6 * i + (nd σ i).2.2.length) (nI pp) := by rw [hρ5]; simp [rS_1, rS_2, rS_3, rI_1, rI_2, rI_3, rJ_1, rJ_2, rJ_3]
                    clear hρ5
                    refine xw_aload_n dX10_arc_135 rfl rfl ?_
                    refine xw_get (ci := 11) (k := 4) (v := .ref (B 4)) dX10_arc_136 hR5.1 rfl inX10 (by decide) tw_795 (Or.inl rfl) rfl ?_
                    refine xw_iload_n dX10_arc_139 rfl rfl ?_
                    refine xw_dup2_11 dX10_arc_140 rfl rfl ?_
                    refine xw_iald dX10_arc_141 (hR5.2.1 4 rfl) ini ?_
                    rw [nI_clamp i31]
                    rw [show ρ5.2.1 4 i = nI (nd σ i).2.2.length by rw [g5.2.1]; exact n3]
                    refine xw_iconst (v := 1) dX10_arc_142 (by decide) ?_
                    refine xw_iadd dX10_arc_143 ?_
                    rw [nI_1]
                    refine xw_iast dX10_arc_144 (hR5.2.1 4 rfl) ini ?_
                    rw [nI_clamp i31]
                    have hR6 : RW (iput M5 (B 4) (some (ilen 4, upd (ρ5.2.1 4) i (nI ((nd σ i).2.2.length + 1))))) m B (rI ρ5 4 (upd (ρ5.2.1 4) i (nI ((nd σ i).2.2.length + 1)))) := hR5.iset rfl
                    have hE6 : EF M (iput M5 (B 4) (some (ilen 4, upd (ρ5.2.1 4) i (nI ((nd σ i).2.2.length + 1))))) m B := hE5.tr (EF.i rfl)
                    generalize iput M5 (B 4) (some (ilen 4, upd (ρ5.2.1 4) i (nI ((nd σ i).2.2.length + 1)))) = M6 at hR6 hE6 ⊢
                    have hA6 := hA5.i (k := 4) (f := (upd (ρ5.2.1 4) i (nI ((nd σ i).2.2.length + 1)))) (by decide)
                    obtain ⟨ρ6, hρ6⟩ : ∃ ρ6, ρ6 = rI ρ5 4 (upd (ρ5.2.1 4) i (nI ((nd σ i).2.2.length + 1))) := ⟨_, rfl⟩
                    rw [← hρ6] at hR6 hA6
                    have g6 : ρ6.2.1 4 = upd (ρ.2.1 4) i (nI ((nd σ i).2.2.length + 1)) ∧ ρ6.2.1 5 = upd (ρ.2.1 5) (6 * i + (nd σ i).2.2.length) (nI ss) ∧ ρ6.2.1 6 = upd (ρ.2.1 6) (6 * i + (nd σ i).2.2.length) (nI j) ∧ ρ6.2.1 7 = upd (ρ.2.1 7) (6 * i + (nd σ i).2.2.length) (nI pp) := by rw [hρ6]; simp [rS_1, rS_2, rS_3, rI_1, rI_2, rI_3, rJ_1, rJ_2, rJ_3, g5.2.1, g5.2.2.1, g5.2.2.2.1, g5.2.2.2.2]
                    have g60 : ρ6.1 0 = 0 := by rw [hρ6, rI_1, g5.1]; exact h0.1
                    clear hρ6
                    refine xw_iconst (v := 1) dX10_arc_145 (by decide) ?_
                    exact xw_zret rfl (by rfl) dX10_arc_146 ⟨rfl, ⟨ρ6, T, hR6, ⟨g60, (hA6 39 (by decide)).2.1.trans h0.2.1, (hA6 40 (by decide)).2.2.trans h0.2.2⟩, ⟨hNd.arc hG hi l6 hA6 g6.1 g6.2.1 g6.2.2.1 g6.2.2.2, hC.ag hA6 (by decide), hAr.ag hA6 (by decide), hRd.ag hA6 (by decide), hK.ag hA6 (by decide), hRs.ag hA6 (by decide), HSc.ag (σ := σ) ⟨hS1, hS2, hS3, hS4⟩ hA6 (by decide)⟩, hT.ag hA6 (by decide), hW⟩, hE6⟩
                  · have l6 : (nd σ i).2.2.length = 6 := (nI_eq (by omega) (by decide)).mp (show nI (nd σ i).2.2.length = nI 6 from d6)
                    exact xw_pc rfl (out95 (fun w => by have := w.2.2.2.2.2; rw [hfc] at this; omega))
            refine xw_iconst (v := 1) dX10_arc_37 (by decide) ?_
            refine xw_goto (tgt := 42) dX10_arc_38 (by decide) ?_
            refine xw_istore (L2 := [(5, .int 1), (0, .ref m), (1, .int f), (2, .int sd), (3, .int t), (4, .int pt)]) dX10_arc_42 (by decide) rfl ?_
            refine xw_iload dX10_arc_44 rfl ?_
            refine xw_if_eq (tgt := 95) dX10_arc_46 (by decide) (fun zz => absurd zz (by decide)) (fun _ => ?_)
            refine xw_iload_n dX10_arc_49 rfl rfl ?_
            refine xw_iconst (v := 1) dX10_arc_50 (by decide) ?_
            refine xw_pc (pc2 := 51) rfl ?_
            refine xw_icmp_ne (tgt := 65) dX10_arc_51 (by decide) (fun d7 => ?_) (fun d7 => ?_)
            · have s0 : sd = 0 := by
                have hs1 : ss ≠ 1 := fun w => d7 (by rw [hse, w]; rfl)
                rw [hse, show ss = 0 by omega]; rfl
              refine xw_mem (L2 := [(0, .ref m), (1, .int f), (2, .int sd), (3, .int t), (4, .int pt)]) (by simp) ?_
              exact xw_pc rfl (rest (Or.inl s0))
            · skip
              refine xw_aload_n dX10_arc_54 rfl rfl ?_
              refine xw_get (ci := 11) (k := 2) (v := .ref (B 2)) dX10_arc_55 hR.1 rfl inX10 (by decide) tw_793 (Or.inl rfl) rfl ?_
              refine xw_iload_n dX10_arc_58 rfl rfl ?_
              rw [hfi]
              refine xw_iald dX10_arc_59 (hR.2.1 2 rfl) ini ?_
              rw [show ρ.2.1 2 (nI i).toNatClampNeg = nI (nd σ i).1 by rw [nI_clamp i31]; exact n1]
              rw [← hfi]
              refine xw_bipush (v := 7) dX10_arc_60 (by decide) ?_
              refine xw_icmp_ne (tgt := 95) dX10_arc_62 (by decide) (fun d8 => ?_) (fun d8 => ?_)
              · skip
                refine xw_mem (L2 := [(0, .ref m), (1, .int f), (2, .int sd), (3, .int t), (4, .int pt)]) (by simp) ?_
                refine xw_pc rfl (out95 (fun w => ?_))
                rcases w.2.2.2.1 with e | e
                · rw [show sd = 1 from d7] at e; exact absurd e (by decide)
                · exact d8 (by have := e.2; rw [hfc] at this; rw [this]; rfl)
              · have o7 : (nd σ i).1 = 7 := (nI_eq (by omega) (by decide)).mp (show nI (nd σ i).1 = nI 7 from d8)
                refine xw_mem (L2 := [(0, .ref m), (1, .int f), (2, .int sd), (3, .int t), (4, .int pt)]) (by simp) ?_
                exact xw_pc rfl (rest (Or.inr ⟨d7, by rw [hfc]; exact o7⟩))
    · rw [if_neg ht]
      refine xw_if_eq (tgt := 41) dX10_arc_18 (by decide) (fun _ => ?_) (fun zz => absurd (by decide) zz)
      exact xw_pc rfl (out41 (fun w => ht w.2.2.1))
  · rw [if_neg hf]
    refine xw_if_eq (tgt := 41) dX10_arc_10 (by decide) (fun _ => ?_) (fun zz => absurd (by decide) zz)
    exact xw_pc rfl (out41 (fun w => hf w.2.1))
end MARC
