/-! THE REFERENCE: atCell -/
section CELLR
variable {G : hx_G} {M M1 : hx_S} {m : Nat} {B : Nat → Nat} {ρ ρ' : hr_S} {σ σ' : hs_S} {T : List TK} {i c p s na k d : Nat} {v x y z : V2} {th : Int32} {K : Nat → Int32} {V : Nat → Int64}
/-- what a node does that fetches or stores -/
def atc (σ : hs_S) (i c : Nat) (x y z : V2) : hs_S := if errs (nd σ i).1 x y ≠ 5 then give σ i c (1, lN (errs (nd σ i).1 x y)) else if (nd σ i).1 = 16 then stored (cix σ x.2 y.2) σ i c z else fetched (cix σ x.2 y.2) σ i c
theorem wXYc : wX 15 = 3 ∧ wY 15 = 2 ∧ wX 16 = 3 ∧ wY 16 = 2 := by decide +kernel
theorem errOf_3 (h : ¬ v.1 = 1) : errOf v 3 = if v.1 = 2 then 5 else 4 := by
  unfold errOf
  rw [if_neg (by decide), if_neg h, if_neg (fun w => absurd w.1 (by decide))]
  by_cases z : v.1 = 2
  · rw [if_neg (fun w => w.2 z), if_pos z]
  · rw [if_pos ⟨rfl, z⟩, if_neg z]
theorem ct_matCell (h : RM M m B σ th K V) (hG : GS σ) (hN : GN σ) (hK7 : GK σ) (hi : i < (sN σ).length) (ho : (nd σ i).1 = 15 ∨ (nd σ i).1 = 16) (hc : c < (sC σ).length) (hx : GV (sA σ) x) (hy : GV (sA σ) y) (hz : (nd σ i).1 = 16 → GV (sA σ) z) (k0 : K 0 = x.1 ∧ V 0 = x.2) (k1 : K 1 = y.1 ∧ V 1 = y.2) (k2 : (nd σ i).1 = 16 → K 2 = z.1 ∧ V 2 = z.2) : CT G 6 152 mX10_atCell [.ref m, .int (nI i), .int (nI c)] M (fun r M1 => r = none ∧ RM M1 m B (atc σ i c x y z) th K V ∧ EF M M1 m B) := by
  obtain ⟨P, hP⟩ : ∃ P : Option Value → hx_S → Prop, P = (fun r M1 => r = none ∧ RM M1 m B (atc σ i c x y z) th K V ∧ EF M M1 m B) := ⟨_, rfl⟩
  rw [← hP]
  obtain ⟨ρ, T, hR, h0, hAb, hT, hW⟩ := id h
  obtain ⟨hNd, hC, hAr, hRd, hK, hRs, hS1, hS2, hS3, hS4⟩ := id hAb
  have h40 := hG.1
  have hA40 := hG.2.2.2.1.1
  have hq1 := hG.2.2.2.2.2.2.2.2.1.1
  have in0 : vp_in (nI 0) 3 := vp_in_nI (by decide) (by decide)
  have in1 : vp_in (nI 1) 3 := vp_in_nI (by decide) (by decide)
  have ini : vp_in (nI i) 40 := vp_in_nI (by omega) (by decide)
  have i31 : i < 2 ^ 31 := by omega
  have h7 : (nd σ i).1 ≠ 7 := by omega
  obtain ⟨n1, n2, -⟩ := hNd.2 i _ (nd_at hi)
  have s0 : ∀ w, gives σ (nd σ i).2.2 (fS 0) c w = give σ i c w := fun w => send_0 hN hi h7
  have wxy : wX (nd σ i).1 = 3 ∧ wY (nd σ i).1 = 2 := by
    rcases ho with e | e
    · rw [e]; exact ⟨wXYc.1, wXYc.2.1⟩
    · rw [e]; exact ⟨wXYc.2.2.1, wXYc.2.2.2⟩
  obtain ⟨wx, wy⟩ := wxy
  have kk0 : ρ.2.1 39 0 = x.1 ∧ ρ.2.2 40 0 = x.2 := by rw [h0.2.1, h0.2.2]; exact k0
  have kk1 : ρ.2.1 39 1 = y.1 ∧ ρ.2.2 40 1 = y.2 := by rw [h0.2.1, h0.2.2]; exact k1
  have bad : ∀ e : Nat, 1 ≤ e → e ≤ 4 → atc σ i c x y z = give σ i c (1, lN e) → XW G 6 152 mX10_atCell [.ref m, .int (nI i), .int (nI c)] M P M 71 [(3, .int (nI e)), (0, .ref m), (1, .int (nI i)), (2, .int (nI c))] [] := by
    intro e b1 b2 hrk
    refine xw_iload_n dX10_atCell_71 rfl rfl ?_
    refine xw_if_le (tgt := 83) dX10_atCell_72 (by decide) (fun zz => absurd zz (show ¬ nI e ≤ nI 0 from nI_ge (by omega) (by omega))) (fun _ => ?_)
    refine xw_aload_n dX10_atCell_75 rfl rfl ?_
    refine xw_iload_n dX10_atCell_76 rfl rfl ?_
    refine xw_iload_n dX10_atCell_77 rfl rfl ?_
    refine xw_iload_n dX10_atCell_78 rfl rfl ?_
    refine xw_callV (q2 := mX10_sendError) (n2 := 3) (ci := 11) (Bs := [.int (nI i), .int (nI c), .int (nI e)]) (rest := []) (ct_msendError h hG hi hc ⟨b1, b2⟩) dX10_atCell_79 rfl (o_at hR.1) rfl rfl tw_981 tw_983 tw_28 tw_47 tw_984 (by decide +kernel) rfl (Nat.le_of_ble_eq_true rfl) (Nat.le_of_ble_eq_true rfl) (Nat.le_of_ble_eq_true rfl) (fun rr M1 hr hle1 => ?_)
    obtain ⟨rfl, hR1, hE1⟩ := hr
    rw [s0] at hR1
    rw [hP, hrk]
    exact xw_vret rfl dX10_atCell_82 ⟨rfl, hR1, hE1⟩
  have q0 := ct_merrorOf (G := G) (n := 2) hR (Or.inr rfl) hx (fun _ => hy) kk0 (fun _ => kk1)
  rw [if_pos rfl] at q0
  refine ct_go (by decide +kernel) (Nat.le_of_ble_eq_true rfl) (L := [(0, .ref m), (1, .int (nI i)), (2, .int (nI c))]) rfl ?_
  refine xw_aload_n dX10_atCell_0 rfl rfl ?_
  refine xw_iconst (v := 2) dX10_atCell_1 (by decide) ?_
  refine xw_callV (q2 := mX10_errorOf) (n2 := 1) (ci := 11) (Bs := [.int (nI 2)]) (rest := []) (q0) dX10_atCell_2 rfl (o_at hR.1) rfl rfl tw_977 tw_979 tw_27 tw_47 tw_980 (by decide +kernel) rfl (Nat.le_of_ble_eq_true rfl) (Nat.le_of_ble_eq_true rfl) (Nat.le_of_ble_eq_true rfl) (fun rr M1 hr hle1 => ?_)
  obtain ⟨rfl, hM1⟩ := hr
  obtain rfl := hM1.symm
  by_cases hA : x.1 = 1 ∨ y.1 = 1
  · obtain ⟨hmin, b1, b2⟩ := er_A (w := 3) (u := 2) (by decide) (by decide) hx hy hA
    have herr : errs (nd σ i).1 x y = er1 (er1 0 x) y := by unfold errs; rw [wx, wy, hmin]
    have ne0 : ¬ nI (er1 (er1 0 x) y) = nI 0 := fun z => by have := (nI_eq (by omega) (by decide)).mp z; omega
    refine xw_istore_n (L2 := [(3, .int (nI (er1 (er1 0 x) y))), (0, .ref m), (1, .int (nI i)), (2, .int (nI c))]) dX10_atCell_5 rfl (by decide) rfl ?_
    refine xw_iload_n dX10_atCell_6 rfl rfl ?_
    refine xw_if_ne (tgt := 31) dX10_atCell_7 (by decide) (fun _ => ?_) (fun zz => absurd zz ne0)
    refine xw_iload_n dX10_atCell_31 rfl rfl ?_
    refine xw_if_ne (tgt := 71) dX10_atCell_32 (by decide) (fun _ => ?_) (fun zz => absurd zz ne0)
    exact xw_pc rfl (bad _ b1 b2 (by unfold atc; rw [herr, if_pos (by omega)]))
  · have x1 : ¬ x.1 = 1 := fun z => hA (Or.inl z)
    have y1 : ¬ y.1 = 1 := fun z => hA (Or.inr z)
    have e0 : er1 (er1 0 x) y = 0 := by rw [er1_N y1, er1_N x1]
    have herr0 : errs (nd σ i).1 x y = min (if x.1 = 2 then 5 else 4) (if y.1 = 0 then 5 else 4) := by unfold errs; rw [wx, wy, errOf_3 x1, errOf_2 y1]
    have four : ¬ x.1 = 2 ∨ ¬ y.1 = 0 → XW G 6 152 mX10_atCell [.ref m, .int (nI i), .int (nI c)] M P M 29 [(3, .int (nI 0)), (0, .ref m), (1, .int (nI i)), (2, .int (nI c))] [] := by
      intro h2
      have herr : errs (nd σ i).1 x y = 4 := by
        rw [herr0]
        rcases h2 with z | z
        · rw [if_neg z]; split <;> rfl
        · rw [if_neg (c := y.1 = 0) z]; split <;> rfl
      refine xw_iconst (v := 4) dX10_atCell_29 (by decide) ?_
      refine xw_istore_n (L2 := [(3, .int 4), (0, .ref m), (1, .int (nI i)), (2, .int (nI c))]) dX10_atCell_30 rfl (by decide) rfl ?_
      refine xw_iload_n dX10_atCell_31 rfl rfl ?_
      refine xw_pc (pc2 := 32) rfl ?_
      refine xw_if_ne (tgt := 71) dX10_atCell_32 (by decide) (fun _ => ?_) (fun zz => absurd zz (by decide))
      exact xw_pc rfl (bad 4 (by decide) (by decide) (by unfold atc; rw [herr, if_pos (by decide)]))
    have good : x.1 = 2 → y.1 = 0 → XW G 6 152 mX10_atCell [.ref m, .int (nI i), .int (nI c)] M P M 31 [(3, .int (nI 0)), (0, .ref m), (1, .int (nI i)), (2, .int (nI c))] [] := by
      intro hx2 hy0
      have herr : errs (nd σ i).1 x y = 5 := by rw [herr0, if_pos hx2, if_pos hy0]; rfl
      have hat : atc σ i c x y z = if (nd σ i).1 = 16 then stored (cix σ x.2 y.2) σ i c z else fetched (cix σ x.2 y.2) σ i c := by unfold atc; rw [if_neg (fun z => z herr)]
      obtain ⟨a, ha, hxa⟩ : ∃ a : Nat, a < sA σ ∧ x.2 = lN a := by
        rcases hx with w | w | ⟨-, w⟩
        · rw [w] at hx2; exact absurd hx2 (by decide)
        · rw [w.1] at hx2; exact absurd hx2 (by decide)
        · exact w
      have hl8 := hG.2.2.2.1.2.1 a ha
      have a31 : a < 2 ^ 31 := by omega
      have ina : vp_in (nI a) 40 := vp_in_nI (by omega) (by decide)
      have hcl : (lN a).toNatClampNeg = a := lN_clamp (by omega)
      have three : cix σ x.2 y.2 = none → XW G 6 152 mX10_atCell [.ref m, .int (nI i), .int (nI c)] M P M 69 [(3, .int (nI 0)), (0, .ref m), (1, .int (nI i)), (2, .int (nI c))] [] := by
        intro hn
        refine xw_iconst (v := 3) dX10_atCell_69 (by decide) ?_
        refine xw_istore_n (L2 := [(3, .int 3), (0, .ref m), (1, .int (nI i)), (2, .int (nI c))]) dX10_atCell_70 rfl (by decide) rfl ?_
        refine xw_pc rfl (bad 3 (by decide) (by decide) ?_)
        rw [hat, hn]
        split <;> rfl
      refine xw_iload_n dX10_atCell_31 rfl rfl ?_
      refine xw_if_ne (tgt := 71) dX10_atCell_32 (by decide) (fun zz => absurd rfl zz) (fun _ => ?_)
      refine xw_aload_n dX10_atCell_35 rfl rfl ?_
      refine xw_get (ci := 11) (k := 40) (v := .ref (B 40)) dX10_atCell_36 hR.1 rfl inX10 (by decide) tw_831 (Or.inl rfl) rfl ?_
      refine xw_iconst (v := 1) dX10_atCell_39 (by decide) ?_
      refine xw_lald dX10_atCell_40 (hR.2.2.1 40 rfl) in1 ?_
      rw [cl1]
      rw [kk1.2]
      refine xw_lconst (v := 0) dX10_atCell_41 (by decide) ?_
      refine xw_lcmp dX10_atCell_42 ?_
      refine xw_if_lt (tgt := 69) dX10_atCell_43 (by decide) (fun d1 => ?_) (fun d1 => ?_)
      · have hl : y.2 < 0 := (lg_cmp_lt _ _).mp d1
        exact xw_pc rfl (three (by unfold cix; rw [if_neg (fun w => w.2.2.1 hl)]))
      · have h1 : ¬ y.2 < 0 := fun z => d1 ((lg_cmp_lt _ _).mpr z)
        refine xw_aload_n dX10_atCell_46 rfl rfl ?_
        refine xw_get (ci := 11) (k := 40) (v := .ref (B 40)) dX10_atCell_47 hR.1 rfl inX10 (by decide) tw_831 (Or.inl rfl) rfl ?_
        refine xw_iconst (v := 1) dX10_atCell_50 (by decide) ?_
        refine xw_lald dX10_atCell_51 (hR.2.2.1 40 rfl) in1 ?_
        rw [cl1]
        rw [kk1.2]
        refine xw_aload_n dX10_atCell_52 rfl rfl ?_
        refine xw_get (ci := 11) (k := 14) (v := .ref (B 14)) dX10_atCell_53 hR.1 rfl inX10 (by decide) tw_805 (Or.inl rfl) rfl ?_
        refine xw_aload_n dX10_atCell_56 rfl rfl ?_
        refine xw_get (ci := 11) (k := 40) (v := .ref (B 40)) dX10_atCell_57 hR.1 rfl inX10 (by decide) tw_831 (Or.inl rfl) rfl ?_
        refine xw_iconst (v := 0) dX10_atCell_60 (by decide) ?_
        refine xw_pc (pc2 := 61) rfl ?_
        refine xw_lald dX10_atCell_61 (hR.2.2.1 40 rfl) in0 ?_
        rw [cl0]
        rw [kk0.2, hxa]
        refine xw_l2i dX10_atCell_62 ?_
        rw [lN_i]
        refine xw_iald dX10_atCell_63 (hR.2.1 14 rfl) ina ?_
        rw [nI_clamp a31]
        rw [hAr.2.1 a ha]
        refine xw_i2l dX10_atCell_64 ?_
        refine xw_lcmp dX10_atCell_65 ?_
        rw [nI_l (show sLe σ a < 2 ^ 31 by omega)]
        refine xw_if_lt (tgt := 71) dX10_atCell_66 (by decide) (fun d2 => ?_) (fun d2 => ?_)
        · have h2 : y.2 < lN (sLe σ a) := (lg_cmp_lt _ _).mp d2
          obtain ⟨b, hb, hyb⟩ := pk_lOf h1
          have hbl : b < sLe σ a := by rw [hyb] at h2; exact (pk_lLT hb (by omega)).mp h2
          have hci : cix σ x.2 y.2 = some (8 * a + b) := by
            unfold cix
            rw [hxa, hcl, if_pos ⟨fun w => absurd w (by rw [Int64.not_lt]; exact (pk_lLE (by decide) (by omega)).mpr (Nat.zero_le a)), (pk_lLT (by omega) (by omega)).mpr ha, h1, h2⟩, hyb, lN_clamp hb]
          have hd8 : 8 * a + b < 8 * sA σ := by omega
          have ind : vp_in (nI (8 * a + b)) 320 := vp_in_nI (by omega) (by decide)
          have d31 : 8 * a + b < 2 ^ 31 := by omega
          have m8 : 8 * nI a + nI b = nI (8 * a + b) := by rw [show (8 : Int32) = nI 8 from by decide +kernel, pk_mul, nI_add]
          obtain ⟨c1, c2⟩ := hAr.2.2 _ hd8
          refine xw_iload_n dX10_atCell_71 rfl rfl ?_
          refine xw_if_le (tgt := 83) dX10_atCell_72 (by decide) (fun _ => ?_) (fun zz => absurd (by decide) zz)
          refine xw_bipush (v := 8) dX10_atCell_83 (by decide) ?_
          refine xw_aload_n dX10_atCell_85 rfl rfl ?_
          refine xw_get (ci := 11) (k := 40) (v := .ref (B 40)) dX10_atCell_86 hR.1 rfl inX10 (by decide) tw_831 (Or.inl rfl) rfl ?_
          refine xw_iconst (v := 0) dX10_atCell_89 (by decide) ?_
          refine xw_lald dX10_atCell_90 (hR.2.2.1 40 rfl) in0 ?_
          rw [cl0]
          rw [kk0.2, hxa]
          refine xw_l2i dX10_atCell_91 ?_
          rw [lN_i]
          refine xw_imul dX10_atCell_92 ?_
          refine xw_aload_n dX10_atCell_93 rfl rfl ?_
          refine xw_get (ci := 11) (k := 40) (v := .ref (B 40)) dX10_atCell_94 hR.1 rfl inX10 (by decide) tw_831 (Or.inl rfl) rfl ?_
          refine xw_iconst (v := 1) dX10_atCell_97 (by decide) ?_
          refine xw_pc (pc2 := 98) rfl ?_
          refine xw_lald dX10_atCell_98 (hR.2.2.1 40 rfl) in1 ?_
          rw [cl1]
          rw [kk1.2, hyb]
          refine xw_l2i dX10_atCell_99 ?_
          rw [lN_i]
          refine xw_iadd dX10_atCell_100 ?_
          rw [m8]
          refine xw_istore (L2 := [(4, .int (nI (8 * a + b))), (3, .int (nI 0)), (0, .ref m), (1, .int (nI i)), (2, .int (nI c))]) dX10_atCell_101 (by decide) rfl ?_
          refine xw_aload_n dX10_atCell_103 rfl rfl ?_
          refine xw_get (ci := 11) (k := 2) (v := .ref (B 2)) dX10_atCell_104 hR.1 rfl inX10 (by decide) tw_793 (Or.inl rfl) rfl ?_
          refine xw_iload_n dX10_atCell_107 rfl rfl ?_
          refine xw_iald dX10_atCell_108 (hR.2.1 2 rfl) ini ?_
          rw [nI_clamp i31]
          rw [n1]
          refine xw_bipush (v := 16) dX10_atCell_109 (by decide) ?_
          refine xw_icmp_ne (tgt := 125) dX10_atCell_111 (by decide) (fun d3 => ?_) (fun d3 => ?_)
          · have o15 : (nd σ i).1 = 15 := by
              rcases ho with e | e
              · exact e
              · exact absurd (by rw [e]; rfl) d3
            rw [if_neg (by omega), hci] at hat
            refine xw_aload_n dX10_atCell_125 rfl rfl ?_
            refine xw_get (ci := 11) (k := 15) (v := .ref (B 15)) dX10_atCell_126 hR.1 rfl inX10 (by decide) tw_806 (Or.inl rfl) rfl ?_
            refine xw_iload dX10_atCell_129 rfl ?_
            refine xw_iald dX10_atCell_131 (hR.2.1 15 rfl) ind ?_
            rw [nI_clamp d31]
            rw [c1]
            refine xw_iconst (v := 3) dX10_atCell_132 (by decide) ?_
            refine xw_icmp_eq (tgt := 160) dX10_atCell_133 (by decide) (fun d4 => ?_) (fun d4 => ?_)
            · have hn : sCe σ (8 * a + b) = none := by
                cases e : sCe σ (8 * a + b) with
                | none => rfl
                | some w => rw [e] at d4; exact absurd d4 (hG.2.2.2.1.2.2 _ w e).2.ne3
              have hfe : fetched (some (8 * a + b)) σ i c = uK σ (sK σ ++ [(i, c, 8 * a + b)]) := by show fetchAt (sCe σ (8 * a + b)) σ i c (8 * a + b) = _; rw [hn]; rfl
              have inl : vp_in (nI (sK σ).length) 302 := vp_in_nI (by omega) (by decide)
              have l31 : (sK σ).length < 2 ^ 31 := by omega
              refine xw_aload_n dX10_atCell_160 rfl rfl ?_
              refine xw_get (ci := 11) (k := 29) (v := .ref (B 29)) dX10_atCell_161 hR.1 rfl inX10 (by decide) tw_820 (Or.inl rfl) rfl ?_
              refine xw_aload_n dX10_atCell_164 rfl rfl ?_
              refine xw_get (ci := 11) (k := 28) (v := .int (ρ.1 28)) dX10_atCell_165 hR.1 rfl inX10 (by decide) tw_819 (Or.inl rfl) rfl ?_
              refine xw_iload_n dX10_atCell_168 rfl rfl ?_
              refine xw_pc (pc2 := 169) rfl ?_
              rw [hK.1]
              refine xw_iast dX10_atCell_169 (hR.2.1 29 rfl) inl ?_
              rw [nI_clamp l31]
              have hR1 : RW (iput M (B 29) (some (ilen 29, upd (ρ.2.1 29) ((sK σ).length) (nI i)))) m B (rI ρ 29 (upd (ρ.2.1 29) ((sK σ).length) (nI i))) := hR.iset rfl
              have hE1 : EF M (iput M (B 29) (some (ilen 29, upd (ρ.2.1 29) ((sK σ).length) (nI i)))) m B := (EF.rf M m B).tr (EF.i rfl)
              generalize iput M (B 29) (some (ilen 29, upd (ρ.2.1 29) ((sK σ).length) (nI i))) = M1 at hR1 hE1 ⊢
              have hA1 := (AG.rf [28, 29, 30, 31] ρ).i (k := 29) (f := (upd (ρ.2.1 29) ((sK σ).length) (nI i))) (by decide)
              refine xw_aload_n dX10_atCell_170 rfl rfl ?_
              refine xw_get (ci := 11) (k := 30) (v := .ref (B 30)) dX10_atCell_171 hR1.1 rfl inX10 (by decide) tw_821 (Or.inl rfl) rfl ?_
              refine xw_aload_n dX10_atCell_174 rfl rfl ?_
              refine xw_get (ci := 11) (k := 28) (v := .int ((rI ρ 29 (upd (ρ.2.1 29) ((sK σ).length) (nI i))).1 28)) dX10_atCell_175 hR1.1 rfl inX10 (by decide) tw_819 (Or.inl rfl) rfl ?_
              refine xw_iload_n dX10_atCell_178 rfl rfl ?_
              rw [show (rI ρ 29 (upd (ρ.2.1 29) (sK σ).length (nI i))).1 28 = nI (sK σ).length from hK.1]
              refine xw_iast dX10_atCell_179 (hR1.2.1 30 rfl) inl ?_
              rw [nI_clamp l31]
              have hR2 : RW (iput M1 (B 30) (some (ilen 30, upd ((rI ρ 29 (upd (ρ.2.1 29) ((sK σ).length) (nI i))).2.1 30) ((sK σ).length) (nI c)))) m B (rI (rI ρ 29 (upd (ρ.2.1 29) ((sK σ).length) (nI i))) 30 (upd ((rI ρ 29 (upd (ρ.2.1 29) ((sK σ).length) (nI i))).2.1 30) ((sK σ).length) (nI c))) := hR1.iset rfl
              have hE2 : EF M (iput M1 (B 30) (some (ilen 30, upd ((rI ρ 29 (upd (ρ.2.1 29) ((sK σ).length) (nI i))).2.1 30) ((sK σ).length) (nI c)))) m B := hE1.tr (EF.i rfl)
              generalize iput M1 (B 30) (some (ilen 30, upd ((rI ρ 29 (upd (ρ.2.1 29) ((sK σ).length) (nI i))).2.1 30) ((sK σ).length) (nI c))) = M2 at hR2 hE2 ⊢
              have hA2 := hA1.i (k := 30) (f := (upd ((rI ρ 29 (upd (ρ.2.1 29) ((sK σ).length) (nI i))).2.1 30) ((sK σ).length) (nI c))) (by decide)
              refine xw_aload_n dX10_atCell_180 rfl rfl ?_
              refine xw_get (ci := 11) (k := 31) (v := .ref (B 31)) dX10_atCell_181 hR2.1 rfl inX10 (by decide) tw_822 (Or.inl rfl) rfl ?_
              refine xw_aload_n dX10_atCell_184 rfl rfl ?_
              refine xw_get (ci := 11) (k := 28) (v := .int ((rI (rI ρ 29 (upd (ρ.2.1 29) ((sK σ).length) (nI i))) 30 (upd ((rI ρ 29 (upd (ρ.2.1 29) ((sK σ).length) (nI i))).2.1 30) ((sK σ).length) (nI c))).1 28)) dX10_atCell_185 hR2.1 rfl inX10 (by decide) tw_819 (Or.inl rfl) rfl ?_
              refine xw_iload dX10_atCell_188 rfl ?_
              rw [show (rI (rI ρ 29 (upd (ρ.2.1 29) (sK σ).length (nI i))) 30 (upd ((rI ρ 29 (upd (ρ.2.1 29) (sK σ).length (nI i))).2.1 30) (sK σ).length (nI c))).1 28 = nI (sK σ).length from hK.1]
              refine xw_iast dX10_atCell_190 (hR2.2.1 31 rfl) inl ?_
              rw [nI_clamp l31]
              have hR3 : RW (iput M2 (B 31) (some (ilen 31, upd ((rI (rI ρ 29 (upd (ρ.2.1 29) ((sK σ).length) (nI i))) 30 (upd ((rI ρ 29 (upd (ρ.2.1 29) ((sK σ).length) (nI i))).2.1 30) ((sK σ).length) (nI c))).2.1 31) ((sK σ).length) (nI (8 * a + b))))) m B (rI (rI (rI ρ 29 (upd (ρ.2.1 29) ((sK σ).length) (nI i))) 30 (upd ((rI ρ 29 (upd (ρ.2.1 29) ((sK σ).length) (nI i))).2.1 30) ((sK σ).length) (nI c))) 31 (upd ((rI (rI ρ 29 (upd (ρ.2.1 29) ((sK σ).length) (nI i))) 30 (upd ((rI ρ 29 (upd (ρ.2.1 29) ((sK σ).length) (nI i))).2.1 30) ((sK σ).length) (nI c))).2.1 31) ((sK σ).length) (nI (8 * a + b)))) := hR2.iset rfl
              have hE3 : EF M (iput M2 (B 31) (some (ilen 31, upd ((rI (rI ρ 29 (upd (ρ.2.1 29) ((sK σ).length) (nI i))) 30 (upd ((rI ρ 29 (upd (ρ.2.1 29) ((sK σ).length) (nI i))).2.1 30) ((sK σ).length) (nI c))).2.1 31) ((sK σ).length) (nI (8 * a + b))))) m B := hE2.tr (EF.i rfl)
              generalize iput M2 (B 31) (some (ilen 31, upd ((rI (rI ρ 29 (upd (ρ.2.1 29) ((sK σ).length) (nI i))) 30 (upd ((rI ρ 29 (upd (ρ.2.1 29) ((sK σ).length) (nI i))).2.1 30) ((sK σ).length) (nI c))).2.1 31) ((sK σ).length) (nI (8 * a + b)))) = M3 at hR3 hE3 ⊢
              have hA3 := hA2.i (k := 31) (f := (upd ((rI (rI ρ 29 (upd (ρ.2.1 29) ((sK σ).length) (nI i))) 30 (upd ((rI ρ 29 (upd (ρ.2.1 29) ((sK σ).length) (nI i))).2.1 30) ((sK σ).length) (nI c))).2.1 31) ((sK σ).length) (nI (8 * a + b)))) (by decide)
              obtain ⟨ρ3, hρ3⟩ : ∃ ρ3, ρ3 = rI (rI (rI ρ 29 (upd (ρ.2.1 29) (sK σ).length (nI i))) 30 (upd ((rI ρ 29 (upd (ρ.2.1 29) (sK σ).length (nI i))).2.1 30) (sK σ).length (nI c))) 31 (upd ((rI (rI ρ 29 (upd (ρ.2.1 29) (sK σ).length (nI i))) 30 (upd ((rI ρ 29 (upd (ρ.2.1 29) (sK σ).length (nI i))).2.1 30) (sK σ).length (nI c))).2.1 31) (sK σ).length (nI (8 * a + b))) := ⟨_, rfl⟩
              rw [← hρ3] at hR3 hA3
              have g3 : ρ3.1 = ρ.1 ∧ ρ3.2.1 29 = upd (ρ.2.1 29) (sK σ).length (nI i) ∧ ρ3.2.1 30 = upd (ρ.2.1 30) (sK σ).length (nI c) ∧ ρ3.2.1 31 = upd (ρ.2.1 31) (sK σ).length (nI (8 * a + b)) := by rw [hρ3]; simp [rS_1, rS_2, rS_3, rI_1, rI_2, rI_3, rJ_1, rJ_2, rJ_3]
              clear hρ3 hR1 hR2 hA1 hA2
              refine xw_aload_n dX10_atCell_191 rfl rfl ?_
              refine xw_dup dX10_atCell_192 rfl ?_
              refine xw_get (ci := 11) (k := 28) (v := .int (ρ3.1 28)) dX10_atCell_193 hR3.1 rfl inX10 (by decide) tw_819 (Or.inl rfl) rfl ?_
              refine xw_iconst (v := 1) dX10_atCell_196 (by decide) ?_
              refine xw_iadd dX10_atCell_197 ?_
              refine xw_pc (pc2 := 198) rfl ?_
              rw [show ρ3.1 28 = nI (sK σ).length by rw [g3.1]; exact hK.1, nI_1]
              refine xw_put (ci := 11) (k := 28) tyX10 dX10_atCell_198 hR3.1 rfl inX10 tyX10_ok nmX10 (by decide) tw_819 (Or.inl rfl) rfl rfl rfl rfl (Nat.le_of_ble_eq_true rfl) ?_
              dsimp only [flM, List.set]
              have hR4 : RW (oput M3 11 m (some [.int (ρ3.1 0), .int (ρ3.1 1), .ref (B 2), .ref (B 3), .ref (B 4), .ref (B 5), .ref (B 6), .ref (B 7), .int (ρ3.1 8), .int (ρ3.1 9), .ref (B 10), .ref (B 11), .ref (B 12), .int (ρ3.1 13), .ref (B 14), .ref (B 15), .ref (B 16), .int (ρ3.1 17), .ref (B 18), .ref (B 19), .ref (B 20), .ref (B 21), .ref (B 22), .int (ρ3.1 23), .ref (B 24), .ref (B 25), .ref (B 26), .ref (B 27), .int ((nI ((sK σ).length + 1))), .ref (B 29), .ref (B 30), .ref (B 31), .int (ρ3.1 32), .ref (B 33), .ref (B 34), .ref (B 35), .int (ρ3.1 36), .int (ρ3.1 37), .int (ρ3.1 38), .ref (B 39), .ref (B 40)])) m B (rS ρ3 28 (nI ((sK σ).length + 1))) := hR3.sset (k := 28) (v := (nI ((sK σ).length + 1)))
              have hE4 : EF M (oput M3 11 m (some [.int (ρ3.1 0), .int (ρ3.1 1), .ref (B 2), .ref (B 3), .ref (B 4), .ref (B 5), .ref (B 6), .ref (B 7), .int (ρ3.1 8), .int (ρ3.1 9), .ref (B 10), .ref (B 11), .ref (B 12), .int (ρ3.1 13), .ref (B 14), .ref (B 15), .ref (B 16), .int (ρ3.1 17), .ref (B 18), .ref (B 19), .ref (B 20), .ref (B 21), .ref (B 22), .int (ρ3.1 23), .ref (B 24), .ref (B 25), .ref (B 26), .ref (B 27), .int ((nI ((sK σ).length + 1))), .ref (B 29), .ref (B 30), .ref (B 31), .int (ρ3.1 32), .ref (B 33), .ref (B 34), .ref (B 35), .int (ρ3.1 36), .int (ρ3.1 37), .int (ρ3.1 38), .ref (B 39), .ref (B 40)])) m B := hE3.tr EF.o
              generalize oput M3 11 m (some [.int (ρ3.1 0), .int (ρ3.1 1), .ref (B 2), .ref (B 3), .ref (B 4), .ref (B 5), .ref (B 6), .ref (B 7), .int (ρ3.1 8), .int (ρ3.1 9), .ref (B 10), .ref (B 11), .ref (B 12), .int (ρ3.1 13), .ref (B 14), .ref (B 15), .ref (B 16), .int (ρ3.1 17), .ref (B 18), .ref (B 19), .ref (B 20), .ref (B 21), .ref (B 22), .int (ρ3.1 23), .ref (B 24), .ref (B 25), .ref (B 26), .ref (B 27), .int ((nI ((sK σ).length + 1))), .ref (B 29), .ref (B 30), .ref (B 31), .int (ρ3.1 32), .ref (B 33), .ref (B 34), .ref (B 35), .int (ρ3.1 36), .int (ρ3.1 37), .int (ρ3.1 38), .ref (B 39), .ref (B 40)]) = M4 at hR4 hE4 ⊢
              have hA4 := hA3.s (k := 28) (v := (nI ((sK σ).length + 1))) (by decide)
              rw [hP, hat, hfe]
              refine xw_vret rfl dX10_atCell_201 ⟨rfl, ⟨rS ρ3 28 (nI ((sK σ).length + 1)), T, hR4, ⟨(hA4 0 (by decide)).1.trans h0.1, (hA4 39 (by decide)).2.1.trans h0.2.1, (hA4 40 (by decide)).2.2.trans h0.2.2⟩, ⟨?_, ?_, ?_, ?_, ?_, ?_, ?_⟩, hT.ag hA4 (by decide), hW.1, ?_⟩, hE4⟩
              · rw [sN_uK]; exact hNd.ag hA4 (by decide)
              · rw [sC_uK]; exact hC.ag hA4 (by decide)
              · rw [sA_uK, sLe_uK, sCe_uK]; exact hAr.ag hA4 (by decide)
              · rw [sR_uK]; exact hRd.ag hA4 (by decide)
              · rw [sK_uK]
                refine ⟨by rw [rS_1, if_pos rfl, List.length_append, List.length_singleton], fun j w hw => ?_⟩
                rw [rS_2, g3.2.1, g3.2.2.1, g3.2.2.2]
                by_cases hj : j < (sK σ).length
                · rw [List.getElem?_append_left hj] at hw
                  rw [pk_un (by omega), pk_un (by omega), pk_un (by omega)]
                  exact hK.2 j w hw
                · rw [List.getElem?_append_right (by omega)] at hw
                  have zz := (List.getElem?_eq_some_iff.mp hw).1
                  rw [List.length_singleton] at zz
                  obtain rfl : j = (sK σ).length := by omega
                  rw [show (sK σ).length - (sK σ).length = 0 by omega] at hw
                  cases hw
                  exact ⟨pk_us, pk_us, pk_us⟩
              · rw [sRs_uK]; exact hRs.ag hA4 (by decide)
              · have q := HSc.ag (σ := σ) ⟨hS1, hS2, hS3, hS4⟩ hA4 (by decide)
                unfold HSc at q ⊢
                rw [sB_uK, sTr_uK, sW_uK, sAl_uK]; exact q
              · intro a b c' d; rw [sT_uK]; exact hW.2 a b c' d
            · obtain ⟨w, hw⟩ : ∃ w, sCe σ (8 * a + b) = some w := by
                cases e : sCe σ (8 * a + b) with
                | none => rw [e] at d4; exact absurd rfl d4
                | some w => exact ⟨w, rfl⟩
              have hfe : fetched (some (8 * a + b)) σ i c = give σ i c w := by show fetchAt (sCe σ (8 * a + b)) σ i c (8 * a + b) = _; rw [hw]; rfl
              rw [hw] at c1 c2
              refine xw_aload_n dX10_atCell_136 rfl rfl ?_
              refine xw_iload_n dX10_atCell_137 rfl rfl ?_
              refine xw_iconst (v := 0) dX10_atCell_138 (by decide) ?_
              refine xw_iload_n dX10_atCell_139 rfl rfl ?_
              refine xw_aload_n dX10_atCell_140 rfl rfl ?_
              refine xw_get (ci := 11) (k := 15) (v := .ref (B 15)) dX10_atCell_141 hR.1 rfl inX10 (by decide) tw_806 (Or.inl rfl) rfl ?_
              refine xw_iload dX10_atCell_144 rfl ?_
              refine xw_iald dX10_atCell_146 (hR.2.1 15 rfl) ind ?_
              rw [nI_clamp d31]
              rw [c1]
              refine xw_aload_n dX10_atCell_147 rfl rfl ?_
              refine xw_get (ci := 11) (k := 16) (v := .ref (B 16)) dX10_atCell_148 hR.1 rfl inX10 (by decide) tw_807 (Or.inl rfl) rfl ?_
              refine xw_iload dX10_atCell_151 rfl ?_
              refine xw_lald dX10_atCell_153 (hR.2.2.1 16 rfl) ind ?_
              rw [nI_clamp d31]
              rw [c2]
              have q1 := ct_msend (G := G) (i := i) (s := 0) (c := c) (v := w) h hG hi hc (by decide) (hG.2.2.2.1.2.2 _ w hw).2
              refine xw_callV (q2 := mX10_send) (n2 := 5) (ci := 11) (Bs := [.int (nI i), .int (nI 0), .int (nI c), .int w.1, .long w.2]) (rest := []) (q1) dX10_atCell_154 rfl (o_at hR.1) rfl rfl tw_969 tw_971 tw_25 tw_47 tw_972 (by decide +kernel) rfl (Nat.le_of_ble_eq_true rfl) (Nat.le_of_ble_eq_true rfl) (Nat.le_of_ble_eq_true rfl) (fun rr M1 hr hle1 => ?_)
              obtain ⟨rfl, hR1, hE1⟩ := hr
              rw [s0] at hR1
              refine xw_goto (tgt := 201) dX10_atCell_157 (by decide) ?_
              rw [hP, hat, hfe]
              exact xw_vret rfl dX10_atCell_201 ⟨rfl, hR1, hE1⟩
          · have o16 : (nd σ i).1 = 16 := (nI_eq (by omega) (by decide)).mp (show nI (nd σ i).1 = nI 16 from d3)
            rw [if_pos o16, hci] at hat
            have q1 := ct_mstore (G := G) (i := i) (c := c) (d := 8 * a + b) (z := z) h hG hN hK7 hi h7 hc ⟨a, b, ha, hbl, rfl⟩ (hz o16) (k2 o16)
            refine xw_aload_n dX10_atCell_114 rfl rfl ?_
            refine xw_iload_n dX10_atCell_115 rfl rfl ?_
            refine xw_iload_n dX10_atCell_116 rfl rfl ?_
            refine xw_iload dX10_atCell_117 rfl ?_
            refine xw_pc (pc2 := 119) rfl ?_
            refine xw_callV (q2 := mX10_store) (n2 := 3) (ci := 11) (Bs := [.int (nI i), .int (nI c), .int (nI (8 * a + b))]) (rest := []) (q1) dX10_atCell_119 rfl (o_at hR.1) rfl rfl tw_1016 tw_1018 tw_36 tw_47 tw_1019 (by decide +kernel) rfl (Nat.le_of_ble_eq_true rfl) (Nat.le_of_ble_eq_true rfl) (Nat.le_of_ble_eq_true rfl) (fun rr M1 hr hle1 => ?_)
            obtain ⟨rfl, hR1, hE1⟩ := hr
            refine xw_goto (tgt := 201) dX10_atCell_122 (by decide) ?_
            rw [hP, hat]
            exact xw_vret rfl dX10_atCell_201 ⟨rfl, hR1, hE1⟩
        · have h2 : ¬ y.2 < lN (sLe σ a) := fun w => d2 ((lg_cmp_lt _ _).mpr w)
          exact xw_pc rfl (three (by unfold cix; rw [if_neg (fun w => h2 (by have := w.2.2.2; rw [hxa, hcl] at this; exact this))]))
    rw [e0]
    refine xw_istore_n (L2 := [(3, .int (nI 0)), (0, .ref m), (1, .int (nI i)), (2, .int (nI c))]) dX10_atCell_5 rfl (by decide) rfl ?_
    refine xw_iload_n dX10_atCell_6 rfl rfl ?_
    refine xw_if_ne (tgt := 31) dX10_atCell_7 (by decide) (fun zz => absurd rfl zz) (fun _ => ?_)
    refine xw_aload_n dX10_atCell_10 rfl rfl ?_
    refine xw_get (ci := 11) (k := 39) (v := .ref (B 39)) dX10_atCell_11 hR.1 rfl inX10 (by decide) tw_830 (Or.inl rfl) rfl ?_
    refine xw_iconst (v := 0) dX10_atCell_14 (by decide) ?_
    refine xw_iald dX10_atCell_15 (hR.2.1 39 rfl) in0 ?_
    rw [cl0]
    rw [kk0.1]
    refine xw_iconst (v := 2) dX10_atCell_16 (by decide) ?_
    refine xw_icmp_ne (tgt := 29) dX10_atCell_17 (by decide) (fun d1 => ?_) (fun d1 => ?_)
    · exact xw_pc rfl (four (Or.inl d1))
    · skip
      refine xw_aload_n dX10_atCell_20 rfl rfl ?_
      refine xw_get (ci := 11) (k := 39) (v := .ref (B 39)) dX10_atCell_21 hR.1 rfl inX10 (by decide) tw_830 (Or.inl rfl) rfl ?_
      refine xw_iconst (v := 1) dX10_atCell_24 (by decide) ?_
      refine xw_iald dX10_atCell_25 (hR.2.1 39 rfl) in1 ?_
      rw [cl1]
      rw [kk1.1]
      refine xw_if_eq (tgt := 31) dX10_atCell_26 (by decide) (fun d2 => ?_) (fun d2 => ?_)
      · exact xw_pc rfl (good d1 d2)
      · exact xw_pc rfl (four (Or.inr d2))
end CELLR
