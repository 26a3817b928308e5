/-! THE REFERENCE: callOrBack, reckon -/
/-- what a node of OP 0 .. 6 gives -/
def rk (o : Nat) (n : Int32) (x y : V2) : V2 := if errs o x y ≠ 5 then (1, lN (errs o x y)) else reck o n x y
section RECKON
variable {G : hx_G} {M M1 : hx_S} {m : Nat} {B : Nat → Nat} {ρ ρ' : hr_S} {σ σ' : hs_S} {T : List TK} {i c p s na k : Nat} {v x y : V2} {th : Int32} {K : Nat → Int32} {V : Nat → Int64}
theorem div_m1 (x : Int64) : -x = x / (-1) := by
  apply Int64.toInt_inj.mp
  rw [Int64.toInt_neg, Int64.toInt_div]
  rw [show (-1 : Int64).toInt = -1 by decide, Int.tdiv_neg, Int.tdiv_one]
theorem ndx_in {k : Int32} (h : inN σ k) : ndx σ k = some k.toNatClampNeg := by unfold ndx; rw [if_pos h]
theorem ct_mcall (h : RM M m B σ th K V) (hG : GS σ) (hi : i < (sN σ).length) (hc : c < (sC σ).length) (ho : (nd σ i).1 = 12 ∨ (nd σ i).1 = 13) (hx : GV (sA σ) x) (k0 : K 0 = x.1 ∧ V 0 = x.2) : CT G 4 103 mX10_callOrBack [.ref m, .int (nI i), .int (nI c)] M (fun r M1 => r = none ∧ RM M1 m B (if (nd σ i).1 = 12 then enter σ i c x else leave σ c x) th K V ∧ EF M M1 m B) := by
  obtain ⟨ρ, T, hR, h0, hAb, -⟩ := id h
  have h40 := hG.1
  have h151 := hG.2.2.1.2.1
  have in0 : vp_in (nI 0) 3 := vp_in_nI (by decide) (by decide)
  have ini : vp_in (nI i) 40 := vp_in_nI (by omega) (by decide)
  have inc : vp_in (nI c) 151 := vp_in_nI (by omega) (by decide)
  have i31 : i < 2 ^ 31 := by omega
  have c31 : c < 2 ^ 31 := by omega
  obtain ⟨n1, n2, -⟩ := hAb.1.2 i _ (nd_at hi)
  obtain ⟨e1, e2, e3⟩ := hAb.2.1.2 c _ (ct3_at hc)
  refine ct_go (by decide +kernel) (Nat.le_of_ble_eq_true rfl) (L := [(0, .ref m), (1, .int (nI i)), (2, .int (nI c))]) rfl ?_
  refine xw_aload_n dX10_callOrBack_0 rfl rfl ?_
  refine xw_get (ci := 11) (k := 2) (v := .ref (B 2)) dX10_callOrBack_1 hR.1 rfl inX10 (by decide) tw_793 (Or.inl rfl) rfl ?_
  refine xw_iload_n dX10_callOrBack_4 rfl rfl ?_
  refine xw_iald dX10_callOrBack_5 (hR.2.1 2 rfl) ini ?_
  rw [nI_clamp i31]
  rw [n1]
  refine xw_bipush (v := 12) dX10_callOrBack_6 (by decide) ?_
  refine xw_icmp_ne (tgt := 65) dX10_callOrBack_8 (by decide) (fun d1 => ?_) (fun d1 => ?_)
  · have o12 : ¬ (nd σ i).1 = 12 := fun z => d1 (by rw [z]; rfl)
    rw [if_neg o12]
    have back : ∀ s : Int32, (c = 0 → s = -1) → s = -1 - (ct3 σ c).2.1 → XW G 4 103 mX10_callOrBack [.ref m, .int (nI i), .int (nI c)] M (fun r M1 => r = none ∧ RM M1 m B (leave σ c x) th K V ∧ EF M M1 m B) M 82 [(3, .int s), (0, .ref m), (1, .int (nI i)), (2, .int (nI c))] [] := by
      intro s hs0 hs
      have hlv : leave σ c x = leaveAt (ndx σ s) σ c x := by unfold leave; rw [hs]
      refine xw_aload_n dX10_callOrBack_82 rfl rfl ?_
      refine xw_iload_n dX10_callOrBack_83 rfl rfl ?_
      refine xw_callV (q2 := mX10_isNode) (n2 := 1) (ci := 11) (Bs := [.int s]) (rest := []) (ct_misNode hR hAb.1.1) dX10_callOrBack_84 rfl (o_at hR.1) rfl rfl tw_932 tw_934 tw_19 tw_47 tw_935 (by decide +kernel) rfl (Nat.le_of_ble_eq_true rfl) (Nat.le_of_ble_eq_true rfl) (Nat.le_of_ble_eq_true rfl) (fun rr M1 hr hle1 => ?_)
      obtain ⟨rfl, hM1⟩ := hr
      obtain rfl := hM1.symm
      by_cases hin : inN σ s
      · have c0 : ¬ c = 0 := fun z => by rw [hs0 z] at hin; exact hin.1 (by decide)
        obtain ⟨ko, hko, hke⟩ := hG.out hc c0
        obtain ⟨j, hj, hje, -⟩ := pk_mu hin.1 (show ¬ nI (sN σ).length ≤ s from fun z => absurd hin.2 (by rw [Int32.not_lt]; exact z)) (show (sN σ).length < 2 ^ 31 by omega)
        rw [if_pos hin]
        refine xw_if_eq (tgt := 114) dX10_callOrBack_87 (by decide) (fun zz => absurd zz (by decide)) (fun _ => ?_)
        refine xw_aload_n dX10_callOrBack_90 rfl rfl ?_
        refine xw_iload_n dX10_callOrBack_91 rfl rfl ?_
        refine xw_iconst (v := 2) dX10_callOrBack_92 (by decide) ?_
        refine xw_aload_n dX10_callOrBack_93 rfl rfl ?_
        refine xw_get (ci := 11) (k := 10) (v := .ref (B 10)) dX10_callOrBack_94 hR.1 rfl inX10 (by decide) tw_801 (Or.inl rfl) rfl ?_
        refine xw_iload_n dX10_callOrBack_97 rfl rfl ?_
        refine xw_iald dX10_callOrBack_98 (hR.2.1 10 rfl) inc ?_
        rw [nI_clamp c31]
        rw [e1, hke]
        refine xw_aload_n dX10_callOrBack_99 rfl rfl ?_
        refine xw_get (ci := 11) (k := 39) (v := .ref (B 39)) dX10_callOrBack_100 hR.1 rfl inX10 (by decide) tw_830 (Or.inl rfl) rfl ?_
        refine xw_iconst (v := 0) dX10_callOrBack_103 (by decide) ?_
        refine xw_pc (pc2 := 104) rfl ?_
        refine xw_iald dX10_callOrBack_104 (hR.2.1 39 rfl) in0 ?_
        rw [cl0]
        rw [h0.2.1, k0.1]
        refine xw_aload_n dX10_callOrBack_105 rfl rfl ?_
        refine xw_get (ci := 11) (k := 40) (v := .ref (B 40)) dX10_callOrBack_106 hR.1 rfl inX10 (by decide) tw_831 (Or.inl rfl) rfl ?_
        refine xw_iconst (v := 0) dX10_callOrBack_109 (by decide) ?_
        refine xw_lald dX10_callOrBack_110 (hR.2.2.1 40 rfl) in0 ?_
        rw [cl0]
        rw [h0.2.2, k0.2]
        have q1 := ct_msend (G := G) (i := j) (s := 2) (c := ko) (v := x) h hG hj hko (by decide) hx
        rw [hje]
        refine xw_callV (q2 := mX10_send) (n2 := 5) (ci := 11) (Bs := [.int (nI j), .int (nI 2), .int (nI ko), .int x.1, .long x.2]) (rest := []) (q1) dX10_callOrBack_111 rfl (o_at hR.1) rfl rfl tw_969 tw_971 tw_25 tw_47 tw_972 (by decide +kernel) rfl (Nat.le_of_ble_eq_true rfl) (Nat.le_of_ble_eq_true rfl) (Nat.le_of_ble_eq_true rfl) (fun rr M1 hr hle1 => ?_)
        obtain ⟨rfl, hR1, hE1⟩ := hr
        rw [send_2] at hR1
        have hfin : leave σ c x = give σ j ko x := by
          rw [hlv, ndx_in hin, hje, nI_clamp (by omega)]
          show give σ j (outc σ c) x = _
          unfold outc
          rw [if_neg c0, hke, nI_clamp (by omega)]
        rw [hfin]
        exact xw_vret rfl dX10_callOrBack_114 ⟨rfl, hR1, hE1⟩
      · rw [if_neg hin]
        refine xw_if_eq (tgt := 114) dX10_callOrBack_87 (by decide) (fun _ => ?_) (fun zz => absurd (by decide) zz)
        have hfin : leave σ c x = σ := by rw [hlv, ndx_none hin]; rfl
        rw [hfin]
        exact xw_vret rfl dX10_callOrBack_114 ⟨rfl, h, EF.rf M m B⟩
    refine xw_iload_n dX10_callOrBack_65 rfl rfl ?_
    refine xw_if_le (tgt := 80) dX10_callOrBack_66 (by decide) (fun d2 => ?_) (fun d2 => ?_)
    · have c0 : c = 0 := Nat.eq_zero_of_not_pos (fun z => absurd d2 (show ¬ nI c ≤ nI 0 from nI_ge z (by omega)))
      have hct : ct3 σ c = (-1, 0, 0) := by rw [c0]; unfold ct3; rw [hG.2.2.1.2.2.1]; rfl
      refine xw_iconst (v := (-1)) dX10_callOrBack_80 (by decide) ?_
      refine xw_istore_n (L2 := [(3, .int (-1)), (0, .ref m), (1, .int (nI i)), (2, .int (nI c))]) dX10_callOrBack_81 rfl (by decide) rfl ?_
      exact xw_pc rfl (back (-1) (fun _ => rfl) (by rw [hct]; decide))
    · have c0 : ¬ c = 0 := fun z => d2 (show nI c ≤ nI 0 from nI_le (by omega) (by decide))
      refine xw_iconst (v := (-1)) dX10_callOrBack_69 (by decide) ?_
      refine xw_aload_n dX10_callOrBack_70 rfl rfl ?_
      refine xw_get (ci := 11) (k := 11) (v := .ref (B 11)) dX10_callOrBack_71 hR.1 rfl inX10 (by decide) tw_802 (Or.inl rfl) rfl ?_
      refine xw_iload_n dX10_callOrBack_74 rfl rfl ?_
      refine xw_iald dX10_callOrBack_75 (hR.2.1 11 rfl) inc ?_
      rw [nI_clamp c31]
      rw [e2]
      refine xw_isub dX10_callOrBack_76 ?_
      refine xw_goto (tgt := 81) dX10_callOrBack_77 (by decide) ?_
      refine xw_istore_n (L2 := [(3, .int ((-1) - ((ct3 σ c).2.1))), (0, .ref m), (1, .int (nI i)), (2, .int (nI c))]) dX10_callOrBack_81 rfl (by decide) rfl ?_
      refine xw_pc (pc2 := 82) rfl ?_
      exact xw_pc rfl (back _ (fun z => absurd z c0) rfl)
  · have o12 : (nd σ i).1 = 12 := (nI_eq (by have := (hG.2.1 i _ (nd_at hi)).1; omega) (by decide)).mp (show nI (nd σ i).1 = nI 12 from d1)
    rw [if_pos o12]
    refine xw_aload_n dX10_callOrBack_11 rfl rfl ?_
    refine xw_aload_n dX10_callOrBack_12 rfl rfl ?_
    refine xw_get (ci := 11) (k := 3) (v := .ref (B 3)) dX10_callOrBack_13 hR.1 rfl inX10 (by decide) tw_794 (Or.inl rfl) rfl ?_
    refine xw_iload_n dX10_callOrBack_16 rfl rfl ?_
    refine xw_iald dX10_callOrBack_17 (hR.2.1 3 rfl) ini ?_
    rw [nI_clamp i31]
    rw [n2]
    refine xw_callV (q2 := mX10_isNode) (n2 := 1) (ci := 11) (Bs := [.int (nd σ i).2.1]) (rest := []) (ct_misNode hR hAb.1.1) dX10_callOrBack_18 rfl (o_at hR.1) rfl rfl tw_932 tw_934 tw_19 tw_47 tw_935 (by decide +kernel) rfl (Nat.le_of_ble_eq_true rfl) (Nat.le_of_ble_eq_true rfl) (Nat.le_of_ble_eq_true rfl) (fun rr M1 hr hle1 => ?_)
    obtain ⟨rfl, hM1⟩ := hr
    obtain rfl := hM1.symm
    by_cases hin : inN σ (nd σ i).2.1
    · obtain ⟨j, hj, hje, -⟩ := pk_mu hin.1 (show ¬ nI (sN σ).length ≤ (nd σ i).2.1 from fun z => absurd hin.2 (by rw [Int32.not_lt]; exact z)) (show (sN σ).length < 2 ^ 31 by omega)
      have hen : ∀ cn, cnum (sC σ) (nI c, -1 - nI i, 0) = cn → enter σ i c x = callAt cn.1 cn.2 σ j x := fun cn hcn => by
        unfold enter
        rw [ndx_in hin, hje, nI_clamp (by omega)]
        show callAt (cnum (sC σ) (nI c, -1 - nI i, 0)).1 (cnum (sC σ) (nI c, -1 - nI i, 0)).2 σ j x = _
        rw [hcn]
      rw [if_pos hin]
      refine xw_if_ne (tgt := 25) dX10_callOrBack_21 (by decide) (fun _ => ?_) (fun zz => absurd zz (by decide))
      refine xw_aload_n dX10_callOrBack_25 rfl rfl ?_
      refine xw_iload_n dX10_callOrBack_26 rfl rfl ?_
      refine xw_iconst (v := (-1)) dX10_callOrBack_27 (by decide) ?_
      refine xw_iload_n dX10_callOrBack_28 rfl rfl ?_
      refine xw_isub dX10_callOrBack_29 ?_
      refine xw_iconst (v := 0) dX10_callOrBack_30 (by decide) ?_
      refine xw_callV (q2 := mX10_contextOf) (n2 := 3) (ci := 11) (Bs := [.int (nI c), .int ((-1) - (nI i)), .int 0]) (rest := []) (ct_mcontextOf (o := nI c) (s := -1 - nI i) (r0 := 0) h hG) dX10_callOrBack_31 rfl (o_at hR.1) rfl rfl tw_995 tw_997 tw_31 tw_47 tw_998 (by decide +kernel) rfl (Nat.le_of_ble_eq_true rfl) (Nat.le_of_ble_eq_true rfl) (Nat.le_of_ble_eq_true rfl) (fun rr M1 hr hle1 => ?_)
      obtain ⟨hq, hE1⟩ := hr
      rcases hq with ⟨hn, rfl, hRM1⟩ | ⟨d, hn, rfl, hRM1⟩
      · skip
        refine xw_istore_n (L2 := [(3, .int (-1)), (0, .ref m), (1, .int (nI i)), (2, .int (nI c))]) dX10_callOrBack_34 rfl (by decide) rfl ?_
        refine xw_iload_n dX10_callOrBack_35 rfl rfl ?_
        refine xw_iconst (v := (-1)) dX10_callOrBack_36 (by decide) ?_
        refine xw_pc (pc2 := 37) rfl ?_
        refine xw_icmp_eq (tgt := 64) dX10_callOrBack_37 (by decide) (fun _ => ?_) (fun zz => absurd rfl zz)
        rw [hen _ rfl]
        have hfin : callAt (cnum (sC σ) (nI c, -1 - nI i, 0)).1 (cnum (sC σ) (nI c, -1 - nI i, 0)).2 σ j x = uTr (uC σ (cnum (sC σ) (nI c, -1 - nI i, 0)).2) 2 := by rw [hn]; rfl
        rw [hfin]
        exact xw_vret rfl dX10_callOrBack_64 ⟨rfl, hRM1, hE1⟩
      · obtain ⟨hG1, hd1⟩ := hG.cn (t := (nI c, -1 - nI i, 0)) ⟨c, hc, rfl⟩ hn
        have hfin : callAt (cnum (sC σ) (nI c, -1 - nI i, 0)).1 (cnum (sC σ) (nI c, -1 - nI i, 0)).2 σ j x = come (uC σ (cnum (sC σ) (nI c, -1 - nI i, 0)).2) j 0 d x := by rw [hn]; rfl
        rw [hen _ rfl, hfin]
        have hL := hG1.2.2.1.2.1
        obtain ⟨ρ1, T1, hR1, h01, hAb1, -⟩ := id hRM1
        obtain ⟨-, n21, -⟩ := hAb1.1.2 i (nd σ i) (by rw [sN_uC]; exact nd_at hi)
        have q1 := ct_mcomes (G := G) (i := j) (p := 0) (c := d) (v := x) hRM1 hG1 (by rw [sN_uC]; exact hj) (pts_b _ _).1 hd1 (by rw [sA_uC]; exact hx)
        refine xw_istore_n (L2 := [(3, .int (nI d)), (0, .ref m), (1, .int (nI i)), (2, .int (nI c))]) dX10_callOrBack_34 rfl (by decide) rfl ?_
        refine xw_iload_n dX10_callOrBack_35 rfl rfl ?_
        refine xw_iconst (v := (-1)) dX10_callOrBack_36 (by decide) ?_
        refine xw_icmp_eq (tgt := 64) dX10_callOrBack_37 (by decide) (fun zz => absurd zz (nI_m1 (show d < 2 ^ 31 by omega))) (fun _ => ?_)
        refine xw_aload_n dX10_callOrBack_40 rfl rfl ?_
        refine xw_aload_n dX10_callOrBack_41 rfl rfl ?_
        refine xw_get (ci := 11) (k := 3) (v := .ref (B 3)) dX10_callOrBack_42 hR1.1 rfl inX10 (by decide) tw_794 (Or.inl rfl) rfl ?_
        refine xw_iload_n dX10_callOrBack_45 rfl rfl ?_
        refine xw_iald dX10_callOrBack_46 (hR1.2.1 3 rfl) ini ?_
        rw [nI_clamp i31]
        rw [n21, hje]
        refine xw_iconst (v := 0) dX10_callOrBack_47 (by decide) ?_
        refine xw_iload_n dX10_callOrBack_48 rfl rfl ?_
        refine xw_aload_n dX10_callOrBack_49 rfl rfl ?_
        refine xw_get (ci := 11) (k := 39) (v := .ref (B 39)) dX10_callOrBack_50 hR1.1 rfl inX10 (by decide) tw_830 (Or.inl rfl) rfl ?_
        refine xw_iconst (v := 0) dX10_callOrBack_53 (by decide) ?_
        refine xw_iald dX10_callOrBack_54 (hR1.2.1 39 rfl) in0 ?_
        rw [cl0]
        rw [h01.2.1, k0.1]
        refine xw_aload_n dX10_callOrBack_55 rfl rfl ?_
        refine xw_get (ci := 11) (k := 40) (v := .ref (B 40)) dX10_callOrBack_56 hR1.1 rfl inX10 (by decide) tw_831 (Or.inl rfl) rfl ?_
        refine xw_iconst (v := 0) dX10_callOrBack_59 (by decide) ?_
        refine xw_pc (pc2 := 60) rfl ?_
        refine xw_lald dX10_callOrBack_60 (hR1.2.2.1 40 rfl) in0 ?_
        rw [cl0]
        rw [h01.2.2, k0.2]
        refine xw_callV (q2 := mX10_comes) (n2 := 5) (ci := 11) (Bs := [.int (nI j), .int (nI 0), .int (nI d), .int x.1, .long x.2]) (rest := []) (q1) dX10_callOrBack_61 rfl (o_at hR1.1) rfl rfl tw_943 tw_945 tw_20 tw_47 tw_946 (by decide +kernel) rfl (Nat.le_of_ble_eq_true rfl) (Nat.le_of_ble_eq_true rfl) (Nat.le_of_ble_eq_true rfl) (fun rr M1 hr hle1 => ?_)
        obtain ⟨rfl, hR2, hE2⟩ := hr
        exact xw_vret rfl dX10_callOrBack_64 ⟨rfl, hR2, hE1.tr hE2⟩
    · rw [if_neg hin]
      refine xw_if_ne (tgt := 25) dX10_callOrBack_21 (by decide) (fun zz => absurd (by decide) zz) (fun _ => ?_)
      have hfin : enter σ i c x = σ := by unfold enter; rw [ndx_none hin]; rfl
      rw [hfin]
      exact xw_vret rfl dX10_callOrBack_24 ⟨rfl, h, EF.rf M m B⟩
end RECKON
