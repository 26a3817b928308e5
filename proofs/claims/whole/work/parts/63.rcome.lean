/-! THE REFERENCE: comes -/
/-- the reference's object holds σ; th: what thrown tells; K, V: its arrays kind, value -/
def RM (M : hx_S) (m : Nat) (B : Nat → Nat) (σ : hs_S) (th : Int32) (K : Nat → Int32) (V : Nat → Int64) : Prop := ∃ ρ T, RW M m B ρ ∧ (ρ.1 0 = th ∧ ρ.2.1 39 = K ∧ ρ.2.2 40 = V) ∧ Ab ρ σ ∧ HT ρ T ∧ WT σ T
section RCOME
variable {G : hx_G} {M M1 : hx_S} {m : Nat} {B : Nat → Nat} {ρ ρ' : hr_S} {σ σ' : hs_S} {T : List TK} {i c p : Nat} {v : V2} {th : Int32} {l : List Nat} {K : Nat → Int32} {V : Nat → Int64}
theorem Ab.cm (s : same9 σ σ') (hN : HNd ρ (sN σ)) (hC : HCx ρ (sC σ)) (hA : HAr ρ (sA σ) (sLe σ) (sCe σ)) (hR : HRd ρ (sR σ')) (hK : HKp ρ (sK σ)) (hRs : HRs ρ (sRs σ)) (hS : ρ.1 8 = nI (sB σ) ∧ ρ.1 37 = nI (sW σ) ∧ ρ.1 38 = nI (sAl σ)) (ht : ρ.1 36 = nI (sTr σ')) : Ab ρ σ' := by
  obtain ⟨⟨s1, s2, s3, s4, s5, s6⟩, s7, s8, s9, s10⟩ := s
  exact ⟨by rw [s1]; exact hN, by rw [s2]; exact hC, by rw [s3, s4, s5]; exact hA, hR, by rw [s7]; exact hK, by rw [s6]; exact hRs, by rw [s10]; exact hS.1, ht, by rw [s8]; exact hS.2.1, by rw [s9]; exact hS.2.2⟩
theorem WT.len (hW : WT σ T) (hG : GS σ) : T.length = sNt σ := by
  obtain ⟨T0, n0, m0, l0⟩ := hG.2.2.2.2.2.2.2.2.2
  have key : ∀ x, x ∈ T.map (fun y => y.1) ↔ x ∈ T0 := by
    rintro ⟨i, c, p⟩
    rw [m0]
    constructor
    · intro h
      obtain ⟨⟨k, w⟩, h1, h2⟩ := List.mem_map.mp h
      obtain rfl : k = (i, c, p) := h2
      rw [(hW.2 i c p w).mp h1]; rfl
    · intro h
      cases e : sT σ i c p with
      | none => rw [e] at h; cases h
      | some w => exact List.mem_map.mpr ⟨((i, c, p), w), (hW.2 i c p w).mpr e, rfl⟩
  have a1 := sub_len2 _ _ hW.1 (fun x hx => (key x).mp hx)
  have a2 := sub_len2 _ _ n0 (fun x hx => (key x).mpr hx)
  rw [List.length_map] at a1 a2
  omega
theorem WT.tb (hW : WT σ T) (hG : GS σ) : TB T := by
  have hl := hW.len hG
  have h9 := hG.2.2.2.2.2.2.2.2.1.1
  have h40 := hG.1
  have h151 := hG.2.2.1.2.1
  refine ⟨by omega, fun x hx => ?_⟩
  obtain ⟨⟨i, c, p⟩, w⟩ := x
  have e := (hW.2 i c p w).mp hx
  obtain ⟨g1, g2⟩ := hG.2.2.2.2.1 i c
  have g3 := (g1 p w e).1
  have g4 := g2 ⟨p, by rw [e]; exact fun z => by cases z⟩
  have := (pts_b σ i).2
  exact ⟨by show i < 40; omega, by show c < 151; omega, by show p < 3; omega⟩
theorem cnt_of {t : Nat → Option V2} {n : Nat} (h3 : n ≤ 3) (h : ∀ q, q < n → t q ≠ none) (hb : ∀ q w, t q = some w → q < n) : cnt t = n := by
  have k : ∀ q, n ≤ q → t q = none := fun q hq => by
    cases e : t q with
    | none => rfl
    | some w => have := hb q w e; omega
  have s : ∀ q, q < n → (t q).isSome = true := fun q hq => by
    cases e : t q with
    | none => exact absurd e (h q hq)
    | some w => rfl
  unfold cnt
  rcases (show n = 0 ∨ n = 1 ∨ n = 2 ∨ n = 3 by omega) with rfl | rfl | rfl | rfl
  · rw [k 0 (by omega), k 1 (by omega), k 2 (by omega)]; rfl
  · rw [s 0 (by omega), k 1 (by omega), k 2 (by omega)]; rfl
  · rw [s 0 (by omega), s 1 (by omega), k 2 (by omega)]; rfl
  · rw [s 0 (by omega), s 1 (by omega), s 2 (by omega)]; rfl
theorem ct_mcomes (h : RM M m B σ th K V) (hG : GS σ) (hi : i < (sN σ).length) (hp : p < pts σ i) (hc : c < (sC σ).length) (hv : GV (sA σ) v) : CT G 2 50 mX10_comes [.ref m, .int (nI i), .int (nI p), .int (nI c), .int v.1, .long v.2] M (fun r M1 => r = none ∧ RM M1 m B (come σ i p c v) th K V ∧ EF M M1 m B) := by
  obtain ⟨ρ, T, hR, h0, hAb, hT, hW⟩ := h
  obtain ⟨hN, hC, hAr, hRd, hK, hRs, hS1, hS2, hS3, hS4⟩ := id hAb
  have hsm := come_same σ i p c v
  have hTB := hW.tb hG
  have hTl := hW.len hG
  obtain ⟨q1, q2, q3, q4, q5, q6⟩ := hG.2.2.2.2.2.2.2.2.1
  have h40 := hG.1
  have h151 := hG.2.2.1.2.1
  have hpb := pts_b σ i
  have ho := (hG.2.1 i _ (nd_at hi)).1
  obtain ⟨n1, -⟩ := hN.2 i _ (nd_at hi)
  have hkey : ∀ w, ((i, c, p), w) ∈ T ↔ sT σ i c p = some w := hW.2 i c p
  refine ct_go (by decide +kernel) (Nat.le_of_ble_eq_true rfl) (L := [(0, .ref m), (1, .int (nI i)), (2, .int (nI p)), (3, .int (nI c)), (4, .int v.1), (5, .long v.2)]) rfl ?_
  refine xw_aload_n dX10_comes_0 rfl rfl ?_
  refine xw_get (ci := 11) (k := 36) (v := .int (ρ.1 36)) dX10_comes_1 hR.1 rfl inX10 (by decide) tw_827 (Or.inl rfl) rfl ?_
  rw [hS2]
  refine xw_if_le (tgt := 8) dX10_comes_4 (by decide) (fun d1 => ?_) (fun d1 => ?_)
  · have t0 : sTr σ = 0 := Nat.eq_zero_of_not_pos (fun z => absurd d1 (show ¬ nI (sTr σ) ≤ nI 0 from nI_ge z (by omega)))
    refine xw_aload_n dX10_comes_8 rfl rfl ?_
    refine xw_iload_n dX10_comes_9 rfl rfl ?_
    refine xw_iload_n dX10_comes_10 rfl rfl ?_
    refine xw_iload_n dX10_comes_11 rfl rfl ?_
    refine xw_callV (q2 := mX10_waits) (n2 := 3) (ci := 11) (Bs := [.int (nI i), .int (nI p), .int (nI c)]) (rest := []) (ct_mwaits hR hT hTB (show i < 40 by omega) (show p < 3 by omega) (show c < 151 by omega)) dX10_comes_12 rfl (o_at hR.1) rfl rfl tw_947 tw_949 tw_21 tw_47 tw_950 (by decide +kernel) rfl (Nat.le_of_ble_eq_true rfl) (Nat.le_of_ble_eq_true rfl) (Nat.le_of_ble_eq_true rfl) (fun rr M1 hr hle1 => ?_)
    obtain ⟨hM1, hq⟩ := hr
    obtain rfl := hM1.symm
    rcases hq with ⟨rfl, hno⟩ | ⟨k, w, rfl, hk⟩
    · have t1 : sT σ i c p = none := by
        cases e : sT σ i c p with
        | none => rfl
        | some w => exact absurd rfl (hno _ ((hkey w).mpr e))
      refine xw_iconst (v := (-1)) dX10_comes_15 (by decide) ?_
      refine xw_icmp_eq (tgt := 25) dX10_comes_16 (by decide) (fun _ => ?_) (fun zz => absurd rfl zz)
      refine xw_aload_n dX10_comes_25 rfl rfl ?_
      refine xw_get (ci := 11) (k := 17) (v := .int (ρ.1 17)) dX10_comes_26 hR.1 rfl inX10 (by decide) tw_808 (Or.inl rfl) rfl ?_
      refine xw_aload_n dX10_comes_29 rfl rfl ?_
      refine xw_get (ci := 11) (k := 23) (v := .int (ρ.1 23)) dX10_comes_30 hR.1 rfl inX10 (by decide) tw_814 (Or.inl rfl) rfl ?_
      refine xw_iadd dX10_comes_33 ?_
      refine xw_aload_n dX10_comes_34 rfl rfl ?_
      refine xw_get (ci := 11) (k := 28) (v := .int (ρ.1 28)) dX10_comes_35 hR.1 rfl inX10 (by decide) tw_819 (Or.inl rfl) rfl ?_
      refine xw_iadd dX10_comes_38 ?_
      refine xw_sipush (v := 300) dX10_comes_39 (by decide) ?_
      refine xw_pc (pc2 := 42) rfl ?_
      rw [show ρ.1 17 + ρ.1 23 + ρ.1 28 = nI (sNt σ + (sR σ).length + (sK σ).length) by rw [hT.1, hRd.1, hK.1, hTl, nI_add, nI_add]]
      refine xw_icmp_lt (tgt := 51) dX10_comes_42 (by decide) (fun d2 => ?_) (fun d2 => ?_)
      · have t2 : ¬ 300 ≤ sNt σ + (sR σ).length + (sK σ).length := fun z => absurd d2 (nI_nlt (a := sNt σ + (sR σ).length + (sK σ).length) (b := 300) z (by omega))
        have hin : vp_in (nI T.length) 302 := vp_in_nI (by omega) (by decide)
        have hl31 : T.length < 2 ^ 31 := by omega
        refine xw_aload_n dX10_comes_51 rfl rfl ?_
        refine xw_get (ci := 11) (k := 18) (v := .ref (B 18)) dX10_comes_52 hR.1 rfl inX10 (by decide) tw_809 (Or.inl rfl) rfl ?_
        refine xw_aload_n dX10_comes_55 rfl rfl ?_
        refine xw_get (ci := 11) (k := 17) (v := .int (ρ.1 17)) dX10_comes_56 hR.1 rfl inX10 (by decide) tw_808 (Or.inl rfl) rfl ?_
        refine xw_iload_n dX10_comes_59 rfl rfl ?_
        rw [hT.1]
        refine xw_iast dX10_comes_60 (hR.2.1 18 rfl) hin ?_
        rw [nI_clamp hl31]
        have hR1 : RW (iput M (B 18) (some (ilen 18, upd (ρ.2.1 18) T.length (nI i)))) m B (rI ρ 18 (upd (ρ.2.1 18) T.length (nI i))) := hR.iset rfl
        have hE1 : EF M (iput M (B 18) (some (ilen 18, upd (ρ.2.1 18) T.length (nI i)))) m B := (EF.rf M m B).tr (EF.i rfl)
        generalize iput M (B 18) (some (ilen 18, upd (ρ.2.1 18) T.length (nI i))) = M1 at hR1 hE1 ⊢
        refine xw_aload_n dX10_comes_61 rfl rfl ?_
        refine xw_get (ci := 11) (k := 19) (v := .ref (B 19)) dX10_comes_62 hR1.1 rfl inX10 (by decide) tw_810 (Or.inl rfl) rfl ?_
        refine xw_aload_n dX10_comes_65 rfl rfl ?_
        refine xw_get (ci := 11) (k := 17) (v := .int ((rI ρ 18 (upd (ρ.2.1 18) T.length (nI i))).1 17)) dX10_comes_66 hR1.1 rfl inX10 (by decide) tw_808 (Or.inl rfl) rfl ?_
        refine xw_iload_n dX10_comes_69 rfl rfl ?_
        rw [show (rI ρ 18 (upd (ρ.2.1 18) T.length (nI i))).1 17 = nI T.length from hT.1]
        refine xw_iast dX10_comes_70 (hR1.2.1 19 rfl) hin ?_
        rw [nI_clamp hl31]
        have hR2 : RW (iput M1 (B 19) (some (ilen 19, upd ((rI ρ 18 (upd (ρ.2.1 18) T.length (nI i))).2.1 19) T.length (nI p)))) m B (rI (rI ρ 18 (upd (ρ.2.1 18) T.length (nI i))) 19 (upd ((rI ρ 18 (upd (ρ.2.1 18) T.length (nI i))).2.1 19) T.length (nI p))) := hR1.iset rfl
        have hE2 : EF M (iput M1 (B 19) (some (ilen 19, upd ((rI ρ 18 (upd (ρ.2.1 18) T.length (nI i))).2.1 19) T.length (nI p)))) m B := hE1.tr (EF.i rfl)
        generalize iput M1 (B 19) (some (ilen 19, upd ((rI ρ 18 (upd (ρ.2.1 18) T.length (nI i))).2.1 19) T.length (nI p))) = M2 at hR2 hE2 ⊢
        obtain ⟨ρ2, hρ2⟩ : ∃ ρ2, ρ2 = rI (rI ρ 18 (upd (ρ.2.1 18) T.length (nI i))) 19 (upd ((rI ρ 18 (upd (ρ.2.1 18) T.length (nI i))).2.1 19) T.length (nI p)) := ⟨_, rfl⟩
        rw [← hρ2] at hR2
        have g2 : ρ2.1 = ρ.1 ∧ ρ2.2.1 18 = upd (ρ.2.1 18) T.length (nI i) ∧ ρ2.2.1 19 = upd (ρ.2.1 19) T.length (nI p) ∧ ρ2.2.1 20 = ρ.2.1 20 ∧ ρ2.2.1 21 = ρ.2.1 21 ∧ ρ2.2.2 22 = ρ.2.2 22 := by rw [hρ2]; simp [rS_1, rS_2, rS_3, rI_1, rI_2, rI_3, rJ_1, rJ_2, rJ_3]
        have ag2 : AG [17, 18, 19, 20, 21, 22] ρ ρ2 := by rw [hρ2]; exact ((AG.rf _ ρ).i (by decide)).i (by decide)
        clear hρ2 hR1 hE1
        refine xw_aload_n dX10_comes_71 rfl rfl ?_
        refine xw_get (ci := 11) (k := 20) (v := .ref (B 20)) dX10_comes_72 hR2.1 rfl inX10 (by decide) tw_811 (Or.inl rfl) rfl ?_
        refine xw_aload_n dX10_comes_75 rfl rfl ?_
        refine xw_get (ci := 11) (k := 17) (v := .int (ρ2.1 17)) dX10_comes_76 hR2.1 rfl inX10 (by decide) tw_808 (Or.inl rfl) rfl ?_
        refine xw_iload_n dX10_comes_79 rfl rfl ?_
        refine xw_pc (pc2 := 80) rfl ?_
        rw [show ρ2.1 17 = nI T.length by rw [g2.1]; exact hT.1]
        refine xw_iast dX10_comes_80 (hR2.2.1 20 rfl) hin ?_
        rw [nI_clamp hl31]
        have hR3 : RW (iput M2 (B 20) (some (ilen 20, upd (ρ2.2.1 20) T.length (nI c)))) m B (rI ρ2 20 (upd (ρ2.2.1 20) T.length (nI c))) := hR2.iset rfl
        have hE3 : EF M (iput M2 (B 20) (some (ilen 20, upd (ρ2.2.1 20) T.length (nI c)))) m B := hE2.tr (EF.i rfl)
        generalize iput M2 (B 20) (some (ilen 20, upd (ρ2.2.1 20) T.length (nI c))) = M3 at hR3 hE3 ⊢
        have hA3 := ag2.i (k := 20) (f := (upd (ρ2.2.1 20) T.length (nI c))) (by decide)
        refine xw_aload_n dX10_comes_81 rfl rfl ?_
        refine xw_get (ci := 11) (k := 21) (v := .ref (B 21)) dX10_comes_82 hR3.1 rfl inX10 (by decide) tw_812 (Or.inl rfl) rfl ?_
        refine xw_aload_n dX10_comes_85 rfl rfl ?_
        refine xw_get (ci := 11) (k := 17) (v := .int ((rI ρ2 20 (upd (ρ2.2.1 20) T.length (nI c))).1 17)) dX10_comes_86 hR3.1 rfl inX10 (by decide) tw_808 (Or.inl rfl) rfl ?_
        refine xw_iload dX10_comes_89 rfl ?_
        rw [show (rI ρ2 20 (upd (ρ2.2.1 20) T.length (nI c))).1 17 = nI T.length by rw [rI_1, g2.1]; exact hT.1]
        refine xw_iast dX10_comes_91 (hR3.2.1 21 rfl) hin ?_
        rw [nI_clamp hl31]
        have hR4 : RW (iput M3 (B 21) (some (ilen 21, upd ((rI ρ2 20 (upd (ρ2.2.1 20) T.length (nI c))).2.1 21) T.length v.1))) m B (rI (rI ρ2 20 (upd (ρ2.2.1 20) T.length (nI c))) 21 (upd ((rI ρ2 20 (upd (ρ2.2.1 20) T.length (nI c))).2.1 21) T.length v.1)) := hR3.iset rfl
        have hE4 : EF M (iput M3 (B 21) (some (ilen 21, upd ((rI ρ2 20 (upd (ρ2.2.1 20) T.length (nI c))).2.1 21) T.length v.1))) m B := hE3.tr (EF.i rfl)
        generalize iput M3 (B 21) (some (ilen 21, upd ((rI ρ2 20 (upd (ρ2.2.1 20) T.length (nI c))).2.1 21) T.length v.1)) = M4 at hR4 hE4 ⊢
        have hA4 := hA3.i (k := 21) (f := (upd ((rI ρ2 20 (upd (ρ2.2.1 20) T.length (nI c))).2.1 21) T.length v.1)) (by decide)
        obtain ⟨ρ4, hρ4⟩ : ∃ ρ4, ρ4 = rI (rI ρ2 20 (upd (ρ2.2.1 20) T.length (nI c))) 21 (upd ((rI ρ2 20 (upd (ρ2.2.1 20) T.length (nI c))).2.1 21) T.length v.1) := ⟨_, rfl⟩
        rw [← hρ4] at hR4 hA4
        have g4 : ρ4.1 = ρ.1 ∧ ρ4.2.1 18 = upd (ρ.2.1 18) T.length (nI i) ∧ ρ4.2.1 19 = upd (ρ.2.1 19) T.length (nI p) ∧ ρ4.2.1 20 = upd (ρ.2.1 20) T.length (nI c) ∧ ρ4.2.1 21 = upd (ρ.2.1 21) T.length v.1 ∧ ρ4.2.2 22 = ρ.2.2 22 := by
          rw [hρ4]
          simp [rS_1, rS_2, rS_3, rI_1, rI_2, rI_3, rJ_1, rJ_2, rJ_3, g2.1, g2.2.1, g2.2.2.1, g2.2.2.2.1, g2.2.2.2.2.1, g2.2.2.2.2.2]
        clear hρ4 hR3 hE3 hA3 hR2 hE2
        refine xw_aload_n dX10_comes_92 rfl rfl ?_
        refine xw_get (ci := 11) (k := 22) (v := .ref (B 22)) dX10_comes_93 hR4.1 rfl inX10 (by decide) tw_813 (Or.inl rfl) rfl ?_
        refine xw_aload_n dX10_comes_96 rfl rfl ?_
        refine xw_get (ci := 11) (k := 17) (v := .int (ρ4.1 17)) dX10_comes_97 hR4.1 rfl inX10 (by decide) tw_808 (Or.inl rfl) rfl ?_
        refine xw_lload dX10_comes_100 rfl ?_
        rw [show ρ4.1 17 = nI T.length by rw [g4.1]; exact hT.1]
        refine xw_last dX10_comes_102 (hR4.2.2.1 22 rfl) hin ?_
        rw [nI_clamp hl31]
        have hR5 : RW (jput M4 (B 22) (some (jlen 22, vp_updL (ρ4.2.2 22) T.length v.2))) m B (rJ ρ4 22 (vp_updL (ρ4.2.2 22) T.length v.2)) := hR4.jset rfl
        have hE5 : EF M (jput M4 (B 22) (some (jlen 22, vp_updL (ρ4.2.2 22) T.length v.2))) m B := hE4.tr (EF.j rfl)
        generalize jput M4 (B 22) (some (jlen 22, vp_updL (ρ4.2.2 22) T.length v.2)) = M5 at hR5 hE5 ⊢
        have hA5 := hA4.j (k := 22) (f := (vp_updL (ρ4.2.2 22) T.length v.2)) (by decide)
        refine xw_aload_n dX10_comes_103 rfl rfl ?_
        refine xw_dup dX10_comes_104 rfl ?_
        refine xw_get (ci := 11) (k := 17) (v := .int ((rJ ρ4 22 (vp_updL (ρ4.2.2 22) T.length v.2)).1 17)) dX10_comes_105 hR5.1 rfl inX10 (by decide) tw_808 (Or.inl rfl) rfl ?_
        refine xw_iconst (v := 1) dX10_comes_108 (by decide) ?_
        refine xw_iadd dX10_comes_109 ?_
        refine xw_pc (pc2 := 110) rfl ?_
        rw [show (rJ ρ4 22 (vp_updL (ρ4.2.2 22) T.length v.2)).1 17 = nI T.length by rw [rJ_1, g4.1]; exact hT.1, nI_1]
        refine xw_put (ci := 11) (k := 17) tyX10 dX10_comes_110 hR5.1 rfl inX10 tyX10_ok nmX10 (by decide) tw_808 (Or.inl rfl) rfl rfl rfl rfl (Nat.le_of_ble_eq_true rfl) ?_
        dsimp only [flM, List.set]
        have hR6 : RW (oput M5 11 m (some [.int ((rJ ρ4 22 (vp_updL (ρ4.2.2 22) T.length v.2)).1 0), .int ((rJ ρ4 22 (vp_updL (ρ4.2.2 22) T.length v.2)).1 1), .ref (B 2), .ref (B 3), .ref (B 4), .ref (B 5), .ref (B 6), .ref (B 7), .int ((rJ ρ4 22 (vp_updL (ρ4.2.2 22) T.length v.2)).1 8), .int ((rJ ρ4 22 (vp_updL (ρ4.2.2 22) T.length v.2)).1 9), .ref (B 10), .ref (B 11), .ref (B 12), .int ((rJ ρ4 22 (vp_updL (ρ4.2.2 22) T.length v.2)).1 13), .ref (B 14), .ref (B 15), .ref (B 16), .int ((nI (T.length + 1))), .ref (B 18), .ref (B 19), .ref (B 20), .ref (B 21), .ref (B 22), .int ((rJ ρ4 22 (vp_updL (ρ4.2.2 22) T.length v.2)).1 23), .ref (B 24), .ref (B 25), .ref (B 26), .ref (B 27), .int ((rJ ρ4 22 (vp_updL (ρ4.2.2 22) T.length v.2)).1 28), .ref (B 29), .ref (B 30), .ref (B 31), .int ((rJ ρ4 22 (vp_updL (ρ4.2.2 22) T.length v.2)).1 32), .ref (B 33), .ref (B 34), .ref (B 35), .int ((rJ ρ4 22 (vp_updL (ρ4.2.2 22) T.length v.2)).1 36), .int ((rJ ρ4 22 (vp_updL (ρ4.2.2 22) T.length v.2)).1 37), .int ((rJ ρ4 22 (vp_updL (ρ4.2.2 22) T.length v.2)).1 38), .ref (B 39), .ref (B 40)])) m B (rS (rJ ρ4 22 (vp_updL (ρ4.2.2 22) T.length v.2)) 17 (nI (T.length + 1))) := hR5.sset (k := 17) (v := (nI (T.length + 1)))
        have hE6 : EF M (oput M5 11 m (some [.int ((rJ ρ4 22 (vp_updL (ρ4.2.2 22) T.length v.2)).1 0), .int ((rJ ρ4 22 (vp_updL (ρ4.2.2 22) T.length v.2)).1 1), .ref (B 2), .ref (B 3), .ref (B 4), .ref (B 5), .ref (B 6), .ref (B 7), .int ((rJ ρ4 22 (vp_updL (ρ4.2.2 22) T.length v.2)).1 8), .int ((rJ ρ4 22 (vp_updL (ρ4.2.2 22) T.length v.2)).1 9), .ref (B 10), .ref (B 11), .ref (B 12), .int ((rJ ρ4 22 (vp_updL (ρ4.2.2 22) T.length v.2)).1 13), .ref (B 14), .ref (B 15), .ref (B 16), .int ((nI (T.length + 1))), .ref (B 18), .ref (B 19), .ref (B 20), .ref (B 21), .ref (B 22), .int ((rJ ρ4 22 (vp_updL (ρ4.2.2 22) T.length v.2)).1 23), .ref (B 24), .ref (B 25), .ref (B 26), .ref (B 27), .int ((rJ ρ4 22 (vp_updL (ρ4.2.2 22) T.length v.2)).1 28), .ref (B 29), .ref (B 30), .ref (B 31), .int ((rJ ρ4 22 (vp_updL (ρ4.2.2 22) T.length v.2)).1 32), .ref (B 33), .ref (B 34), .ref (B 35), .int ((rJ ρ4 22 (vp_updL (ρ4.2.2 22) T.length v.2)).1 36), .int ((rJ ρ4 22 (vp_updL (ρ4.2.2 22) T.length v.2)).1 37), .int ((rJ ρ4 22 (vp_updL (ρ4.2.2 22) T.length v.2)).1 38), .ref (B 39), .ref (B 40)])) m B := hE5.tr EF.o
        generalize oput M5 11 m (some [.int ((rJ ρ4 22 (vp_updL (ρ4.2.2 22) T.length v.2)).1 0), .int ((rJ ρ4 22 (vp_updL (ρ4.2.2 22) T.length v.2)).1 1), .ref (B 2), .ref (B 3), .ref (B 4), .ref (B 5), .ref (B 6), .ref (B 7), .int ((rJ ρ4 22 (vp_updL (ρ4.2.2 22) T.length v.2)).1 8), .int ((rJ ρ4 22 (vp_updL (ρ4.2.2 22) T.length v.2)).1 9), .ref (B 10), .ref (B 11), .ref (B 12), .int ((rJ ρ4 22 (vp_updL (ρ4.2.2 22) T.length v.2)).1 13), .ref (B 14), .ref (B 15), .ref (B 16), .int ((nI (T.length + 1))), .ref (B 18), .ref (B 19), .ref (B 20), .ref (B 21), .ref (B 22), .int ((rJ ρ4 22 (vp_updL (ρ4.2.2 22) T.length v.2)).1 23), .ref (B 24), .ref (B 25), .ref (B 26), .ref (B 27), .int ((rJ ρ4 22 (vp_updL (ρ4.2.2 22) T.length v.2)).1 28), .ref (B 29), .ref (B 30), .ref (B 31), .int ((rJ ρ4 22 (vp_updL (ρ4.2.2 22) T.length v.2)).1 32), .ref (B 33), .ref (B 34), .ref (B 35), .int ((rJ ρ4 22 (vp_updL (ρ4.2.2 22) T.length v.2)).1 36), .int ((rJ ρ4 22 (vp_updL (ρ4.2.2 22) T.length v.2)).1 37), .int ((rJ ρ4 22 (vp_updL (ρ4.2.2 22) T.length v.2)).1 38), .ref (B 39), .ref (B 40)]) = M6 at hR6 hE6 ⊢
        have hA6 := hA5.s (k := 17) (v := (nI (T.length + 1))) (by decide)
        obtain ⟨ρ6, hρ6⟩ : ∃ ρ6, ρ6 = rS (rJ ρ4 22 (vp_updL (ρ4.2.2 22) T.length v.2)) 17 (nI (T.length + 1)) := ⟨_, rfl⟩
        rw [← hρ6] at hR6 hA6
        have g6 : ρ6.1 17 = nI (T.length + 1) ∧ ρ6.2.1 18 = upd (ρ.2.1 18) T.length (nI i) ∧ ρ6.2.1 19 = upd (ρ.2.1 19) T.length (nI p) ∧ ρ6.2.1 20 = upd (ρ.2.1 20) T.length (nI c) ∧ ρ6.2.1 21 = upd (ρ.2.1 21) T.length v.1 ∧ ρ6.2.2 22 = vp_updL (ρ.2.2 22) T.length v.2 := by
          rw [hρ6]
          simp [rS_1, rS_2, rS_3, rI_1, rI_2, rI_3, rJ_1, rJ_2, rJ_3, g4.2.1, g4.2.2.1, g4.2.2.2.1, g4.2.2.2.2.1, g4.2.2.2.2.2]
        clear hρ6 hR5 hE5 hA5 hR4 hE4
        refine xw_aload_n dX10_comes_113 rfl rfl ?_
        refine xw_iload_n dX10_comes_114 rfl rfl ?_
        refine xw_iload_n dX10_comes_115 rfl rfl ?_
        have hT6 : HT ρ6 (T ++ [((i, c, p), v)]) := by
          refine ⟨by rw [g6.1, List.length_append, List.length_singleton], fun k x hx => ?_⟩
          rw [g6.2.1, g6.2.2.1, g6.2.2.2.1, g6.2.2.2.2.1, g6.2.2.2.2.2]
          unfold upd vp_updL
          by_cases hk : k < T.length
          · rw [List.getElem?_append_left hk] at hx
            rw [if_neg (by omega), if_neg (by omega), if_neg (by omega), if_neg (by omega), if_neg (by omega)]
            exact hT.2 k x hx
          · rw [List.getElem?_append_right (by omega)] at hx
            have z := (List.getElem?_eq_some_iff.mp hx).1
            rw [List.length_singleton] at z
            rw [show k - T.length = 0 by omega] at hx
            cases hx
            rw [if_pos (by omega), if_pos (by omega), if_pos (by omega), if_pos (by omega), if_pos (by omega)]
            exact ⟨rfl, rfl, rfl, rfl, rfl⟩
        have hB6 : TB (T ++ [((i, c, p), v)]) := by
          refine ⟨by rw [List.length_append, List.length_singleton]; omega, fun x hx => ?_⟩
          rcases List.mem_append.mp hx with hx | hx
          · exact hTB.2 x hx
          · rw [List.mem_singleton.mp hx]; exact ⟨by show i < 40; omega, by show c < 151; omega, by show p < 3; omega⟩
        have hn6 : ((T ++ [((i, c, p), v)]).map (fun x => x.1)).Nodup := by
          rw [List.map_append]
          refine List.nodup_append.mpr ⟨hW.1, by simp, fun a ha b hb => ?_⟩
          obtain rfl : b = (i, c, p) := by simpa using hb
          obtain ⟨x, hx, hxa⟩ := List.mem_map.mp ha
          rw [← hxa]
          exact hno x hx
        have hop : ρ6.2.1 2 i = nI (nd σ i).1 := by rw [(hA6 2 (by decide)).2.1]; exact n1
        have hrd6 : ρ6.1 23 = nI (sR σ).length := by rw [(hA6 23 (by decide)).1]; exact hRd.1
        have qg := ct_mgather (G := G) (i := i) (c := c) hR6 hT6 hB6 hn6 hop ho (by omega) (by omega) hrd6 (by omega)
        refine xw_callV (q2 := mX10_gather) (n2 := 2) (ci := 11) (Bs := [.int (nI i), .int (nI c)]) (rest := []) (qg) dX10_comes_116 rfl (o_at hR6.1) rfl rfl tw_951 tw_953 tw_22 tw_47 tw_954 (by decide +kernel) rfl (Nat.le_of_ble_eq_true rfl) (Nat.le_of_ble_eq_true rfl) (Nat.le_of_ble_eq_true rfl) (fun rr M1 hr hle1 => ?_)
        have mem1 : ∀ j d q w, ((j, d, q), w) ∈ T ++ [((i, c, p), v)] ↔ tset (sT σ) i c (tup (sT σ i c) p v) j d q = some w := by
          intro j d q w
          rw [List.mem_append, List.mem_singleton, hW.2]
          by_cases e1 : j = i ∧ d = c
          · obtain ⟨rfl, rfl⟩ := e1
            rw [tset_at]
            unfold tup
            by_cases e2 : q = p
            · rw [if_pos e2, e2, t1]
              constructor
              · rintro (z | z)
                · cases z
                · rw [(Prod.mk.inj z).2]
              · intro z; right; rw [Option.some.inj z]
            · rw [if_neg e2]
              exact ⟨fun z => z.elim id (fun z => absurd (Prod.mk.inj (Prod.mk.inj (Prod.mk.inj z).1).2).2 e2), Or.inl⟩
          · rw [tset_ne e1]
            exact ⟨fun z => z.elim id (fun z => absurd ⟨(Prod.mk.inj (Prod.mk.inj z).1).1, (Prod.mk.inj (Prod.mk.inj (Prod.mk.inj z).1).2).1⟩ e1), Or.inl⟩
        have hb3 : ∀ q w, tup (sT σ i c) p v q = some w → q < pts σ i := fun q w z => ((hG.2.2.2.2.1 i c).1.up hp hv q w z).1
        have hfl : full (T ++ [((i, c, p), v)]) i c (prt (nd σ i).1) ↔ cnt (tup (sT σ i c) p v) = pts σ i := by
          constructor
          · intro z
            refine cnt_of hpb.2 (fun q hq => ?_) hb3
            obtain ⟨w, hw⟩ := z q hq
            have := (mem1 i c q w).mp hw
            rw [tset_at] at this
            rw [this]; exact fun z => by cases z
          · intro z q hq
            have := cnt_full z hb3 q hq
            cases e : tup (sT σ i c) p v q with
            | none => exact absurd e this
            | some w => exact ⟨w, (mem1 i c q w).mpr (by rw [tset_at]; exact e)⟩
        have a0 : ρ6.1 0 = th ∧ ρ6.2.1 39 = K ∧ ρ6.2.2 40 = V := ⟨(hA6 0 (by decide)).1.trans h0.1, (hA6 39 (by decide)).2.1.trans h0.2.1, (hA6 40 (by decide)).2.2.trans h0.2.2⟩
        rcases hr with ⟨rfl, ⟨nf, hM1⟩ | ⟨fl, ρ7, hR7, hE7, hT7, hA7, k23, k24, k25, k26, k27⟩⟩
        · obtain rfl := hM1.symm
          have hcm : come σ i p c v = uNt (uT σ (tset (sT σ) i c (tup (sT σ i c) p v))) (sNt σ + 1) := by unfold come; rw [if_neg (by omega), if_neg (by rw [t1]; decide), if_neg t2, if_neg (fun z => nf (hfl.mpr z))]
          refine xw_vret rfl dX10_comes_119 ⟨rfl, ⟨ρ6, T ++ [((i, c, p), v)], hR6, a0, Ab.cm hsm (hN.ag hA6 (by decide)) (hC.ag hA6 (by decide)) (hAr.ag hA6 (by decide)) ?_ (hK.ag hA6 (by decide)) (hRs.ag hA6 (by decide)) ⟨?_, ?_, ?_⟩ ?_, hT6, hn6, ?_⟩, hE6⟩
          · rw [hcm, sR_uNt, sR_uT]; exact hRd.ag hA6 (by decide)
          · rw [(hA6 8 (by decide)).1]; exact hS1
          · rw [(hA6 37 (by decide)).1]; exact hS3
          · rw [(hA6 38 (by decide)).1]; exact hS4
          · rw [hcm, sTr_uNt, sTr_uT, (hA6 36 (by decide)).1]; exact hS2
          · rw [hcm]; intro j d q w; rw [sT_uNt, sT_uT]; exact mem1 j d q w
        · have hcm : come σ i p c v = uR (uNt (uT σ (tset (sT σ) i c no3)) (sNt σ + 1 - pts σ i)) (sR σ ++ [(i, c, tup (sT σ i c) p v)]) := by unfold come; rw [if_neg (by omega), if_neg (by rw [t1]; decide), if_neg t2, if_pos (hfl.mp fl)]
          have ag7 : AG [17, 18, 19, 20, 21, 22, 23, 24, 25, 26, 27] ρ ρ7 := (hA6.mono (by decide)).tr hA7
          refine xw_vret rfl dX10_comes_119 ⟨rfl, ⟨ρ7, Tq (T ++ [((i, c, p), v)]) i c (prt (nd σ i).1), hR7, ⟨(ag7 0 (by decide)).1.trans h0.1, (ag7 39 (by decide)).2.1.trans h0.2.1, (ag7 40 (by decide)).2.2.trans h0.2.2⟩, Ab.cm hsm (hN.ag ag7 (by decide)) (hC.ag ag7 (by decide)) (hAr.ag ag7 (by decide)) ?_ (hK.ag ag7 (by decide)) (hRs.ag ag7 (by decide)) ⟨?_, ?_, ?_⟩ ?_, hT7, nd_filter _ hn6, ?_⟩, hE6.tr hE7⟩
          · rw [hcm, sR_uR]
            refine ⟨by rw [k23, List.length_append, List.length_singleton], fun k x hx => ?_⟩
            have b24 := (hA6 24 (by decide)).2.1
            have b25 := (hA6 25 (by decide)).2.1
            have b26 := (hA6 26 (by decide)).2.1
            have b27 := (hA6 27 (by decide)).2.2
            by_cases hk : k < (sR σ).length
            · rw [List.getElem?_append_left hk] at hx
              obtain ⟨y1, y2, y3⟩ := hRd.2 k x hx
              obtain ⟨z1, z2⟩ := k24 k (by omega)
              refine ⟨by rw [z1, b24]; exact y1, by rw [z2, b25]; exact y2, fun q w hq hw => ?_⟩
              obtain ⟨z3, z4⟩ := k26 (3 * k + q) (by omega)
              rw [z3, z4, b26, b27]
              exact y3 q w hq hw
            · rw [List.getElem?_append_right (by omega)] at hx
              have z := (List.getElem?_eq_some_iff.mp hx).1
              rw [List.length_singleton] at z
              obtain rfl : k = (sR σ).length := by omega
              rw [show (sR σ).length - (sR σ).length = 0 by omega] at hx
              cases hx
              refine ⟨k25.1, k25.2, fun q w hq hw => ?_⟩
              exact k27 q w (hb3 q w hw) ((mem1 i c q w).mpr (by rw [tset_at]; exact hw))
          · rw [(ag7 8 (by decide)).1]; exact hS1
          · rw [(ag7 37 (by decide)).1]; exact hS3
          · rw [(ag7 38 (by decide)).1]; exact hS4
          · rw [hcm, sTr_uR, sTr_uNt, sTr_uT, (ag7 36 (by decide)).1]; exact hS2
          · rw [hcm]
            intro j d q w
            rw [sT_uR, sT_uNt, sT_uT]
            unfold Tq
            rw [List.mem_filter, mem1]
            by_cases e1 : j = i ∧ d = c
            · obtain ⟨rfl, rfl⟩ := e1
              rw [tset_at, tset_at]
              constructor
              · rintro ⟨z1, z2⟩
                have := hb3 q w z1
                exact absurd z2 (by simp only [decide_eq_true_eq]; exact fun z => z ⟨trivial, trivial, this⟩)
              · intro z; cases z
            · rw [tset_ne e1, tset_ne e1]
              exact ⟨fun z => z.1, fun z => ⟨z, by simp only [decide_eq_true_eq]; exact fun y => e1 ⟨y.1, y.2.1⟩⟩⟩
      · have t2 : 300 ≤ sNt σ + (sR σ).length + (sK σ).length := Nat.le_of_not_lt (fun z => d2 (nI_lt z (by decide)))
        have hcm : come σ i p c v = uTr σ 2 := by unfold come; rw [if_neg (by omega), if_neg (by rw [t1]; decide), if_pos t2]
        have ag1 : AG [36] ρ (rS ρ 36 2) := (AG.rf _ ρ).s (by decide)
        refine xw_aload_n dX10_comes_45 rfl rfl ?_
        refine xw_iconst (v := 2) dX10_comes_46 (by decide) ?_
        refine xw_put (ci := 11) (k := 36) tyX10 dX10_comes_47 hR.1 rfl inX10 tyX10_ok nmX10 (by decide) tw_827 (Or.inl rfl) rfl rfl rfl rfl (Nat.le_of_ble_eq_true rfl) ?_
        dsimp only [flM, List.set]
        have hR1 : RW (oput M 11 m (some [.int (ρ.1 0), .int (ρ.1 1), .ref (B 2), .ref (B 3), .ref (B 4), .ref (B 5), .ref (B 6), .ref (B 7), .int (ρ.1 8), .int (ρ.1 9), .ref (B 10), .ref (B 11), .ref (B 12), .int (ρ.1 13), .ref (B 14), .ref (B 15), .ref (B 16), .int (ρ.1 17), .ref (B 18), .ref (B 19), .ref (B 20), .ref (B 21), .ref (B 22), .int (ρ.1 23), .ref (B 24), .ref (B 25), .ref (B 26), .ref (B 27), .int (ρ.1 28), .ref (B 29), .ref (B 30), .ref (B 31), .int (ρ.1 32), .ref (B 33), .ref (B 34), .ref (B 35), .int (2), .int (ρ.1 37), .int (ρ.1 38), .ref (B 39), .ref (B 40)])) m B (rS ρ 36 2) := hR.sset (k := 36) (v := 2)
        have hE1 : EF M (oput M 11 m (some [.int (ρ.1 0), .int (ρ.1 1), .ref (B 2), .ref (B 3), .ref (B 4), .ref (B 5), .ref (B 6), .ref (B 7), .int (ρ.1 8), .int (ρ.1 9), .ref (B 10), .ref (B 11), .ref (B 12), .int (ρ.1 13), .ref (B 14), .ref (B 15), .ref (B 16), .int (ρ.1 17), .ref (B 18), .ref (B 19), .ref (B 20), .ref (B 21), .ref (B 22), .int (ρ.1 23), .ref (B 24), .ref (B 25), .ref (B 26), .ref (B 27), .int (ρ.1 28), .ref (B 29), .ref (B 30), .ref (B 31), .int (ρ.1 32), .ref (B 33), .ref (B 34), .ref (B 35), .int (2), .int (ρ.1 37), .int (ρ.1 38), .ref (B 39), .ref (B 40)])) m B := (EF.rf M m B).tr EF.o
        generalize oput M 11 m (some [.int (ρ.1 0), .int (ρ.1 1), .ref (B 2), .ref (B 3), .ref (B 4), .ref (B 5), .ref (B 6), .ref (B 7), .int (ρ.1 8), .int (ρ.1 9), .ref (B 10), .ref (B 11), .ref (B 12), .int (ρ.1 13), .ref (B 14), .ref (B 15), .ref (B 16), .int (ρ.1 17), .ref (B 18), .ref (B 19), .ref (B 20), .ref (B 21), .ref (B 22), .int (ρ.1 23), .ref (B 24), .ref (B 25), .ref (B 26), .ref (B 27), .int (ρ.1 28), .ref (B 29), .ref (B 30), .ref (B 31), .int (ρ.1 32), .ref (B 33), .ref (B 34), .ref (B 35), .int (2), .int (ρ.1 37), .int (ρ.1 38), .ref (B 39), .ref (B 40)]) = M1 at hR1 hE1 ⊢
        refine xw_vret rfl dX10_comes_50 ⟨rfl, ⟨rS ρ 36 2, T, hR1, h0, Ab.cm hsm (hN.ag ag1 (by decide)) (hC.ag ag1 (by decide)) (hAr.ag ag1 (by decide)) ?_ (hK.ag ag1 (by decide)) (hRs.ag ag1 (by decide)) ⟨hS1, hS3, hS4⟩ ?_, hT.ag ag1 (by decide), hW.1, ?_⟩, hE1⟩
        · rw [hcm, sR_uTr]; exact hRd.ag ag1 (by decide)
        · rw [hcm, sTr_uTr]; rfl
        · rw [hcm]; intro j d q w; rw [sT_uTr]; exact hW.2 j d q w
    · have hkl := (List.getElem?_eq_some_iff.mp hk).1
      have t1 : sT σ i c p = some w := (hkey w).mp (List.mem_of_getElem? hk)
      have hcm : come σ i p c v = uTr σ 1 := by unfold come; rw [if_neg (by omega), if_pos (by rw [t1]; rfl)]
      have ag1 : AG [36] ρ (rS ρ 36 1) := (AG.rf _ ρ).s (by decide)
      refine xw_iconst (v := (-1)) dX10_comes_15 (by decide) ?_
      refine xw_icmp_eq (tgt := 25) dX10_comes_16 (by decide) (fun zz => absurd zz (nI_m1 (show k < 2 ^ 31 by omega))) (fun _ => ?_)
      refine xw_aload_n dX10_comes_19 rfl rfl ?_
      refine xw_iconst (v := 1) dX10_comes_20 (by decide) ?_
      refine xw_put (ci := 11) (k := 36) tyX10 dX10_comes_21 hR.1 rfl inX10 tyX10_ok nmX10 (by decide) tw_827 (Or.inl rfl) rfl rfl rfl rfl (Nat.le_of_ble_eq_true rfl) ?_
      dsimp only [flM, List.set]
      have hR1 : RW (oput M 11 m (some [.int (ρ.1 0), .int (ρ.1 1), .ref (B 2), .ref (B 3), .ref (B 4), .ref (B 5), .ref (B 6), .ref (B 7), .int (ρ.1 8), .int (ρ.1 9), .ref (B 10), .ref (B 11), .ref (B 12), .int (ρ.1 13), .ref (B 14), .ref (B 15), .ref (B 16), .int (ρ.1 17), .ref (B 18), .ref (B 19), .ref (B 20), .ref (B 21), .ref (B 22), .int (ρ.1 23), .ref (B 24), .ref (B 25), .ref (B 26), .ref (B 27), .int (ρ.1 28), .ref (B 29), .ref (B 30), .ref (B 31), .int (ρ.1 32), .ref (B 33), .ref (B 34), .ref (B 35), .int (1), .int (ρ.1 37), .int (ρ.1 38), .ref (B 39), .ref (B 40)])) m B (rS ρ 36 1) := hR.sset (k := 36) (v := 1)
      have hE1 : EF M (oput M 11 m (some [.int (ρ.1 0), .int (ρ.1 1), .ref (B 2), .ref (B 3), .ref (B 4), .ref (B 5), .ref (B 6), .ref (B 7), .int (ρ.1 8), .int (ρ.1 9), .ref (B 10), .ref (B 11), .ref (B 12), .int (ρ.1 13), .ref (B 14), .ref (B 15), .ref (B 16), .int (ρ.1 17), .ref (B 18), .ref (B 19), .ref (B 20), .ref (B 21), .ref (B 22), .int (ρ.1 23), .ref (B 24), .ref (B 25), .ref (B 26), .ref (B 27), .int (ρ.1 28), .ref (B 29), .ref (B 30), .ref (B 31), .int (ρ.1 32), .ref (B 33), .ref (B 34), .ref (B 35), .int (1), .int (ρ.1 37), .int (ρ.1 38), .ref (B 39), .ref (B 40)])) m B := (EF.rf M m B).tr EF.o
      generalize oput M 11 m (some [.int (ρ.1 0), .int (ρ.1 1), .ref (B 2), .ref (B 3), .ref (B 4), .ref (B 5), .ref (B 6), .ref (B 7), .int (ρ.1 8), .int (ρ.1 9), .ref (B 10), .ref (B 11), .ref (B 12), .int (ρ.1 13), .ref (B 14), .ref (B 15), .ref (B 16), .int (ρ.1 17), .ref (B 18), .ref (B 19), .ref (B 20), .ref (B 21), .ref (B 22), .int (ρ.1 23), .ref (B 24), .ref (B 25), .ref (B 26), .ref (B 27), .int (ρ.1 28), .ref (B 29), .ref (B 30), .ref (B 31), .int (ρ.1 32), .ref (B 33), .ref (B 34), .ref (B 35), .int (1), .int (ρ.1 37), .int (ρ.1 38), .ref (B 39), .ref (B 40)]) = M1 at hR1 hE1 ⊢
      refine xw_vret rfl dX10_comes_24 ⟨rfl, ⟨rS ρ 36 1, T, hR1, h0, Ab.cm hsm (hN.ag ag1 (by decide)) (hC.ag ag1 (by decide)) (hAr.ag ag1 (by decide)) ?_ (hK.ag ag1 (by decide)) (hRs.ag ag1 (by decide)) ⟨hS1, hS3, hS4⟩ ?_, hT.ag ag1 (by decide), hW.1, ?_⟩, hE1⟩
      · rw [hcm, sR_uTr]; exact hRd.ag ag1 (by decide)
      · rw [hcm, sTr_uTr]; rfl
      · rw [hcm]; intro j d q w; rw [sT_uTr]; exact hW.2 j d q w
  · have t0 : sTr σ ≠ 0 := fun z => d1 (show nI (sTr σ) ≤ nI 0 from nI_le (by omega) (by decide))
    have hcm : come σ i p c v = σ := by unfold come; rw [if_pos t0]
    rw [hcm]
    exact xw_vret rfl dX10_comes_7 ⟨rfl, ⟨ρ, T, hR, h0, hAb, hT, hW⟩, EF.rf M m B⟩
end RCOME
