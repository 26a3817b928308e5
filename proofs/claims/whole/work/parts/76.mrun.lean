/-! THE REFERENCE: go, run -/
section MRUN
variable {G : hx_G} {M M1 : hx_S} {m : Nat} {B : Nat → Nat} {ρ ρ' : hr_S} {σ σ' : hs_S} {T : List TK} {i c p s na k d : Nat} {v x y z : V2} {th : Int32} {K : Nat → Int32} {V : Nat → Int64} {t : Nat → Option V2}
theorem GS.urd (h : GS σ) : GS (uR σ ((sR σ).eraseIdx k)) := by
  obtain ⟨k1, k2, k3, k4, k5, k6, k7, k8, k9, k10⟩ := h
  refine ⟨k1, k2, k3, k4, k5, fun x hx => k6 x (List.mem_of_mem_eraseIdx hx), k7, k8, ⟨?_, k9.2⟩, k10⟩
  show sNt σ + ((sR σ).eraseIdx k).length + (sK σ).length ≤ 300
  have := List.length_eraseIdx_le (sR σ) k
  omega
theorem ct_mgo {w : R3} (h : RM M m B σ th K V) (hG : GS σ) (hN : GN σ) (hK7 : GK σ) (hw : (sR σ)[k]? = some w) (hrs : (sRs σ).length < 5001) : CT G 7 176 mX10_go [.ref m, .int (nI k)] M (fun r M1 => r = none ∧ ∃ K1 V1, RM M1 m B (acts (uR σ ((sR σ).eraseIdx k)) w.1 w.2.1 w.2.2) th K1 V1 ∧ EF M M1 m B) := by
  obtain ⟨P, hP⟩ : ∃ P : Option Value → hx_S → Prop, P = (fun r M1 => r = none ∧ ∃ K1 V1, RM M1 m B (acts (uR σ ((sR σ).eraseIdx k)) w.1 w.2.1 w.2.2) th K1 V1 ∧ EF M M1 m B) := ⟨_, rfl⟩
  rw [← hP]
  obtain ⟨ρ, T, hR, h0, hAb, -⟩ := id h
  have h40 := hG.1
  have h151 := hG.2.2.1.2.1
  have hq1 := hG.2.2.2.2.2.2.2.2.1.1
  have hkl := (List.getElem?_eq_some_iff.mp hw).1
  obtain ⟨g1, g2, g3, g4⟩ := hG.2.2.2.2.2.1 w (List.mem_of_getElem? hw)
  obtain ⟨a1, a2, -⟩ := hAb.2.2.2.1.2 k w hw
  have ink : vp_in (nI k) 302 := vp_in_nI (by omega) (by decide)
  have k31 : k < 2 ^ 31 := by omega
  have in0 : vp_in (nI 0) 3 := vp_in_nI (by decide) (by decide)
  have ini : vp_in (nI w.1) 40 := vp_in_nI (by omega) (by decide)
  have i31 : w.1 < 2 ^ 31 := by omega
  obtain ⟨σ1, hσ1⟩ : ∃ σ1, σ1 = uR σ ((sR σ).eraseIdx k) := ⟨_, rfl⟩
  have hG1 : GS σ1 := by rw [hσ1]; exact hG.urd
  have sN1 : sN σ1 = sN σ := by rw [hσ1, sN_uR]
  have sC1 : sC σ1 = sC σ := by rw [hσ1, sC_uR]
  have sA1 : sA σ1 = sA σ := by rw [hσ1, sA_uR]
  have hN1 : GN σ1 := hN.cg sN1
  have hK1 : GK σ1 := hK7.sub sN1 (fun q hq => by rw [hσ1, sK_uR] at hq; exact hq)
  have hi1 : w.1 < (sN σ1).length := by rw [sN1]; exact g1
  have hc1 : w.2.1 < (sC σ1).length := by rw [sC1]; exact g2
  have ht1 : GT (sA σ1) (pts σ1 w.1) w.2.2 := by rw [sA1, pts_cg sN1]; exact g3
  have hf1 : ∀ p, p < pts σ1 w.1 → w.2.2 p ≠ none := by rw [pts_cg sN1]; exact g4
  have hrs1 : (sRs σ1).length < 5001 := by rw [hσ1, sRs_uR]; exact hrs
  have ho18 := (hG1.2.1 w.1 _ (nd_at hi1)).1
  have hpts : pts σ1 w.1 = prt (nd σ1 w.1).1 := rfl
  have hv : ∀ p, p < pts σ1 w.1 → GV (sA σ1) (vl w.2.2 p) := fun p hp => vl_gv ht1 (hf1 p hp)
  refine ct_go (by decide +kernel) (Nat.le_of_ble_eq_true rfl) (L := [(0, .ref m), (1, .int (nI k))]) rfl ?_
  refine xw_aload_n dX10_go_0 rfl rfl ?_
  refine xw_get (ci := 11) (k := 24) (v := .ref (B 24)) dX10_go_1 hR.1 rfl inX10 (by decide) tw_815 (Or.inl rfl) rfl ?_
  refine xw_iload_n dX10_go_4 rfl rfl ?_
  refine xw_iald dX10_go_5 (hR.2.1 24 rfl) ink ?_
  rw [nI_clamp k31]
  rw [a1]
  refine xw_istore_n (L2 := [(2, .int (nI w.1)), (0, .ref m), (1, .int (nI k))]) dX10_go_6 rfl (by decide) rfl ?_
  refine xw_aload_n dX10_go_7 rfl rfl ?_
  refine xw_get (ci := 11) (k := 25) (v := .ref (B 25)) dX10_go_8 hR.1 rfl inX10 (by decide) tw_816 (Or.inl rfl) rfl ?_
  refine xw_iload_n dX10_go_11 rfl rfl ?_
  refine xw_iald dX10_go_12 (hR.2.1 25 rfl) ink ?_
  rw [nI_clamp k31]
  rw [a2]
  refine xw_istore_n (L2 := [(3, .int (nI w.2.1)), (2, .int (nI w.1)), (0, .ref m), (1, .int (nI k))]) dX10_go_13 rfl (by decide) rfl ?_
  refine xw_aload_n dX10_go_14 rfl rfl ?_
  refine xw_iload_n dX10_go_15 rfl rfl ?_
  refine xw_callV (q2 := mX10_take) (n2 := 1) (ci := 11) (Bs := [.int (nI k)]) (rest := []) (ct_mtake h hG hw) dX10_go_16 rfl (o_at hR.1) rfl rfl tw_965 tw_967 tw_24 tw_47 tw_968 (by decide +kernel) rfl (Nat.le_of_ble_eq_true rfl) (Nat.le_of_ble_eq_true rfl) (Nat.le_of_ble_eq_true rfl) (fun rr M1 hr hle1 => ?_)
  obtain ⟨rfl, K1, V1, hRM, hKV, hE1⟩ := hr
  rw [← hσ1] at hRM
  obtain ⟨ρ1, T1, hR1, h01, hAb1, -⟩ := id hRM
  obtain ⟨n1, n2, -⟩ := hAb1.1.2 w.1 _ (nd_at hi1)
  have kv : ∀ p, p < pts σ1 w.1 → K1 p = (vl w.2.2 p).1 ∧ V1 p = (vl w.2.2 p).2 := by
    intro p hp
    have hp3 := (pts_b σ1 w.1).2
    cases e : w.2.2 p with
    | none => exact absurd e (hf1 p hp)
    | some u =>
      obtain ⟨u1, u2⟩ := hKV p u (by omega) e
      unfold vl
      rw [e]
      exact ⟨u1, u2⟩
  have p0 := (pts_b σ1 w.1).1
  have fin : ∀ (σ2 : hs_S) (M2 : hx_S), acts σ1 w.1 w.2.1 w.2.2 = σ2 → RM M2 m B σ2 th K1 V1 → EF M1 M2 m B → P none M2 := fun σ2 M2 e r1 r2 => by
    rw [hP, ← hσ1, e]
    exact ⟨rfl, K1, V1, r1, hE1.tr r2⟩
  generalize hMM : M1 = M2 at hRM hE1 hR1 fin ⊢
  clear hMM
  refine xw_aload_n dX10_go_19 rfl rfl ?_
  refine xw_get (ci := 11) (k := 2) (v := .ref (B 2)) dX10_go_20 hR1.1 rfl inX10 (by decide) tw_793 (Or.inl rfl) rfl ?_
  refine xw_iload_n dX10_go_23 rfl rfl ?_
  refine xw_pc (pc2 := 24) rfl ?_
  refine xw_iald dX10_go_24 (hR1.2.1 2 rfl) ini ?_
  rw [nI_clamp i31]
  rw [n1]
  refine xw_istore (L2 := [(4, .int (nI (nd σ1 w.1).1)), (3, .int (nI w.2.1)), (2, .int (nI w.1)), (0, .ref m), (1, .int (nI k))]) dX10_go_25 (by decide) rfl ?_
  refine xw_iload dX10_go_27 rfl ?_
  have opn : ∀ a, a < 2 ^ 31 → (nI (nd σ1 w.1).1 = nI a ↔ (nd σ1 w.1).1 = a) := fun a ha => nI_eq (by omega) ha
  refine xw_if_ne (tgt := 54) dX10_go_29 (by decide) (fun d1 => ?_) (fun d1 => ?_)
  · have o0 : ¬ (nd σ1 w.1).1 = 0 := fun zz => d1 (by rw [zz]; rfl)
    refine xw_iload dX10_go_54 rfl ?_
    refine xw_iconst (v := 5) dX10_go_56 (by decide) ?_
    refine xw_icmp_gt (tgt := 69) dX10_go_57 (by decide) (fun d2 => ?_) (fun d2 => ?_)
    · have o5 : 5 < (nd σ1 w.1).1 := Nat.lt_of_not_le (fun zz => absurd d2 (show ¬ nI 5 < nI (nd σ1 w.1).1 from nI_nlt (a := 5) (b := (nd σ1 w.1).1) zz (by decide)))
      refine xw_iload dX10_go_69 rfl ?_
      refine xw_bipush (v := 6) dX10_go_71 (by decide) ?_
      refine xw_icmp_ne (tgt := 127) dX10_go_73 (by decide) (fun d3 => ?_) (fun d3 => ?_)
      · have o6 : ¬ (nd σ1 w.1).1 = 6 := fun zz => d3 (by rw [zz]; rfl)
        refine xw_iload dX10_go_127 rfl ?_
        refine xw_bipush (v := 7) dX10_go_129 (by decide) ?_
        refine xw_icmp_ne (tgt := 143) dX10_go_131 (by decide) (fun d4 => ?_) (fun d4 => ?_)
        · have o7 : ¬ (nd σ1 w.1).1 = 7 := fun zz => d4 (by rw [zz]; rfl)
          refine xw_iload dX10_go_143 rfl ?_
          refine xw_bipush (v := 11) dX10_go_145 (by decide) ?_
          refine xw_icmp_gt (tgt := 159) dX10_go_147 (by decide) (fun d5 => ?_) (fun d5 => ?_)
          · have o11 : 11 < (nd σ1 w.1).1 := Nat.lt_of_not_le (fun zz => absurd d5 (show ¬ nI 11 < nI (nd σ1 w.1).1 from nI_nlt (a := 11) (b := (nd σ1 w.1).1) zz (by decide)))
            refine xw_iload dX10_go_159 rfl ?_
            refine xw_bipush (v := 13) dX10_go_161 (by decide) ?_
            refine xw_icmp_gt (tgt := 175) dX10_go_163 (by decide) (fun d6 => ?_) (fun d6 => ?_)
            · have o13 : 13 < (nd σ1 w.1).1 := Nat.lt_of_not_le (fun zz => absurd d6 (show ¬ nI 13 < nI (nd σ1 w.1).1 from nI_nlt (a := 13) (b := (nd σ1 w.1).1) zz (by decide)))
              refine xw_iload dX10_go_175 rfl ?_
              refine xw_bipush (v := 14) dX10_go_177 (by decide) ?_
              refine xw_pc (pc2 := 179) rfl ?_
              refine xw_icmp_ne (tgt := 191) dX10_go_179 (by decide) (fun d7 => ?_) (fun d7 => ?_)
              · have o14 : ¬ (nd σ1 w.1).1 = 14 := fun zz => d7 (by rw [zz]; rfl)
                refine xw_iload dX10_go_191 rfl ?_
                refine xw_bipush (v := 17) dX10_go_193 (by decide) ?_
                refine xw_icmp_ne (tgt := 206) dX10_go_195 (by decide) (fun d8 => ?_) (fun d8 => ?_)
                · have o17 : ¬ (nd σ1 w.1).1 = 17 := fun zz => d8 (by rw [zz]; rfl)
                  have oc : (nd σ1 w.1).1 = 15 ∨ (nd σ1 w.1).1 = 16 := by omega
                  have pt2 : 1 < pts σ1 w.1 := by rw [hpts]; rcases oc with e | e <;> rw [e] <;> decide
                  refine xw_aload_n dX10_go_206 rfl rfl ?_
                  refine xw_iload_n dX10_go_207 rfl rfl ?_
                  refine xw_iload_n dX10_go_208 rfl rfl ?_
                  have q1 := ct_matCell (G := G) (i := w.1) (c := w.2.1) (x := vl w.2.2 0) (y := vl w.2.2 1) (z := vl w.2.2 2) hRM hG1 hN1 hK1 hi1 oc hc1 (hv 0 p0) (hv 1 pt2) (fun e => hv 2 (by rw [hpts, e]; decide)) (kv 0 p0) (kv 1 pt2) (fun e => kv 2 (by rw [hpts, e]; decide))
                  refine xw_callV (q2 := mX10_atCell) (n2 := 2) (ci := 11) (Bs := [.int (nI w.1), .int (nI w.2.1)]) (rest := []) (q1) dX10_go_209 rfl (o_at hR1.1) rfl rfl tw_1012 tw_1014 tw_35 tw_47 tw_1015 (by decide +kernel) rfl (Nat.le_of_ble_eq_true rfl) (Nat.le_of_ble_eq_true rfl) (Nat.le_of_ble_eq_true rfl) (fun rr M1 hr hle1 => ?_)
                  obtain ⟨rfl, hR2, hE2⟩ := hr
                  exact xw_vret rfl dX10_go_212 (fin _ _ (acts_c oc) hR2 hE2)
                · have o17 : (nd σ1 w.1).1 = 17 := (opn 17 (by decide)).mp d8
                  have hac : acts σ1 w.1 w.2.1 w.2.2 = uRs σ1 (sRs σ1 ++ [(vl w.2.2 0, w.2.1)]) := by rw [acts_0 (w0 _ ho18 (Or.inr (Or.inr o17))), o17]; rfl
                  refine xw_aload_n dX10_go_198 rfl rfl ?_
                  refine xw_iload_n dX10_go_199 rfl rfl ?_
                  refine xw_callV (q2 := mX10_keepResult) (n2 := 1) (ci := 11) (Bs := [.int (nI w.2.1)]) (rest := []) (ct_mkeep (x := vl w.2.2 0) (c := w.2.1) hRM hrs1 (kv 0 p0)) dX10_go_200 rfl (o_at hR1.1) rfl rfl tw_1008 tw_1010 tw_34 tw_47 tw_1011 (by decide +kernel) rfl (Nat.le_of_ble_eq_true rfl) (Nat.le_of_ble_eq_true rfl) (Nat.le_of_ble_eq_true rfl) (fun rr M1 hr hle1 => ?_)
                  obtain ⟨rfl, hR2, hE2⟩ := hr
                  refine xw_goto (tgt := 212) dX10_go_203 (by decide) ?_
                  exact xw_vret rfl dX10_go_212 (fin _ _ hac hR2 hE2)
              · have o14 : (nd σ1 w.1).1 = 14 := (opn 14 (by decide)).mp d7
                refine xw_aload_n dX10_go_182 rfl rfl ?_
                refine xw_iload_n dX10_go_183 rfl rfl ?_
                refine xw_iload_n dX10_go_184 rfl rfl ?_
                have q1 := ct_mmake (G := G) (i := w.1) (c := w.2.1) (x := vl w.2.2 0) hRM hG1 hN1 hi1 hc1 (by omega) (hv 0 p0) (kv 0 p0)
                refine xw_callV (q2 := mX10_make) (n2 := 2) (ci := 11) (Bs := [.int (nI w.1), .int (nI w.2.1)]) (rest := []) (q1) dX10_go_185 rfl (o_at hR1.1) rfl rfl tw_1003 tw_1005 tw_33 tw_47 tw_1006 (by decide +kernel) rfl (Nat.le_of_ble_eq_true rfl) (Nat.le_of_ble_eq_true rfl) (Nat.le_of_ble_eq_true rfl) (fun rr M1 hr hle1 => ?_)
                obtain ⟨rfl, hR2, hE2⟩ := hr
                refine xw_goto (tgt := 212) dX10_go_188 (by decide) ?_
                exact xw_vret rfl dX10_go_212 (fin _ _ (acts_14 o14 (hv 0 p0)) hR2 hE2)
            · have o13 : (nd σ1 w.1).1 ≤ 13 := Nat.le_of_not_lt (fun zz => d6 (show nI 13 < nI (nd σ1 w.1).1 from nI_lt zz (by omega)))
              have oc : (nd σ1 w.1).1 = 12 ∨ (nd σ1 w.1).1 = 13 := by omega
              have hac : acts σ1 w.1 w.2.1 w.2.2 = if (nd σ1 w.1).1 = 12 then enter σ1 w.1 w.2.1 (vl w.2.2 0) else leave σ1 w.2.1 (vl w.2.2 0) := by
                rw [acts_0 (w0 _ ho18 (Or.inr (Or.inl (by omega))))]
                unfold actBy
                rw [if_neg (by omega), if_neg (by omega), if_neg (by omega)]
                rcases oc with e | e
                · rw [if_pos e, if_pos e]
                · rw [if_neg (by omega), if_pos e, if_neg (by omega)]
              refine xw_aload_n dX10_go_166 rfl rfl ?_
              refine xw_iload_n dX10_go_167 rfl rfl ?_
              refine xw_iload_n dX10_go_168 rfl rfl ?_
              refine xw_pc (pc2 := 169) rfl ?_
              have q1 := ct_mcall (G := G) (i := w.1) (c := w.2.1) (x := vl w.2.2 0) hRM hG1 hi1 hc1 oc (hv 0 p0) (kv 0 p0)
              refine xw_callV (q2 := mX10_callOrBack) (n2 := 2) (ci := 11) (Bs := [.int (nI w.1), .int (nI w.2.1)]) (rest := []) (q1) dX10_go_169 rfl (o_at hR1.1) rfl rfl tw_999 tw_1001 tw_32 tw_47 tw_1002 (by decide +kernel) rfl (Nat.le_of_ble_eq_true rfl) (Nat.le_of_ble_eq_true rfl) (Nat.le_of_ble_eq_true rfl) (fun rr M1 hr hle1 => ?_)
              obtain ⟨rfl, hR2, hE2⟩ := hr
              refine xw_goto (tgt := 212) dX10_go_172 (by decide) ?_
              exact xw_vret rfl dX10_go_212 (fin _ _ hac hR2 hE2)
          · have o11 : (nd σ1 w.1).1 ≤ 11 := Nat.le_of_not_lt (fun zz => d5 (show nI 11 < nI (nd σ1 w.1).1 from nI_lt zz (by omega)))
            have hac : acts σ1 w.1 w.2.1 w.2.2 = move σ1 w.1 w.2.1 (vl w.2.2 0) := by
              rw [acts_0 (w0 _ ho18 (Or.inr (Or.inl (by omega))))]
              unfold actBy
              rw [if_neg (by omega), if_neg (by omega), if_pos (by omega)]
            refine xw_aload_n dX10_go_150 rfl rfl ?_
            refine xw_iload_n dX10_go_151 rfl rfl ?_
            refine xw_iload_n dX10_go_152 rfl rfl ?_
            have q1 := ct_mturn (G := G) (i := w.1) (c := w.2.1) (x := vl w.2.2 0) hRM hG1 hN1 hi1 hc1 (by omega) (hv 0 p0) (kv 0 p0)
            refine xw_callV (q2 := mX10_turn) (n2 := 2) (ci := 11) (Bs := [.int (nI w.1), .int (nI w.2.1)]) (rest := []) (q1) dX10_go_153 rfl (o_at hR1.1) rfl rfl tw_991 tw_993 tw_30 tw_47 tw_994 (by decide +kernel) rfl (Nat.le_of_ble_eq_true rfl) (Nat.le_of_ble_eq_true rfl) (Nat.le_of_ble_eq_true rfl) (fun rr M1 hr hle1 => ?_)
            obtain ⟨rfl, hR2, hE2⟩ := hr
            refine xw_goto (tgt := 212) dX10_go_156 (by decide) ?_
            exact xw_vret rfl dX10_go_212 (fin _ _ hac hR2 hE2)
        · have o7 : (nd σ1 w.1).1 = 7 := (opn 7 (by decide)).mp d4
          have pt2 : 1 < pts σ1 w.1 := by rw [hpts, o7]; decide
          have hac : acts σ1 w.1 w.2.1 w.2.2 = choose σ1 w.1 w.2.1 (vl w.2.2 0) (vl w.2.2 1) := by
            rw [acts_0 (w0 _ ho18 (Or.inr (Or.inl (by omega))))]
            unfold actBy
            rw [if_neg (by omega), if_pos o7]
          refine xw_aload_n dX10_go_134 rfl rfl ?_
          refine xw_iload_n dX10_go_135 rfl rfl ?_
          refine xw_iload_n dX10_go_136 rfl rfl ?_
          have q1 := ct_mpart (G := G) (i := w.1) (c := w.2.1) (x := vl w.2.2 0) (y := vl w.2.2 1) hRM hG1 hi1 hc1 (hv 0 p0) (hv 1 pt2) (kv 0 p0) (kv 1 pt2)
          refine xw_callV (q2 := mX10_part) (n2 := 2) (ci := 11) (Bs := [.int (nI w.1), .int (nI w.2.1)]) (rest := []) (q1) dX10_go_137 rfl (o_at hR1.1) rfl rfl tw_986 tw_988 tw_29 tw_47 tw_989 (by decide +kernel) rfl (Nat.le_of_ble_eq_true rfl) (Nat.le_of_ble_eq_true rfl) (Nat.le_of_ble_eq_true rfl) (fun rr M1 hr hle1 => ?_)
          obtain ⟨rfl, hR2, hE2⟩ := hr
          refine xw_goto (tgt := 212) dX10_go_140 (by decide) ?_
          exact xw_vret rfl dX10_go_212 (fin _ _ hac hR2 hE2)
      · have o6 : (nd σ1 w.1).1 = 6 := (opn 6 (by decide)).mp d3
        have hw6 : wX 6 = 1 ∧ wY 6 = 0 := by decide +kernel
        have s0 : ∀ u, gives σ1 (nd σ1 w.1).2.2 (fS 0) w.2.1 u = give σ1 w.1 w.2.1 u := fun u => send_0 hN1 hi1 (by omega)
        refine xw_aload_n dX10_go_76 rfl rfl ?_
        refine xw_iload_n dX10_go_77 rfl rfl ?_
        refine xw_iconst (v := 0) dX10_go_78 (by decide) ?_
        refine xw_iload_n dX10_go_79 rfl rfl ?_
        refine xw_aload_n dX10_go_80 rfl rfl ?_
        refine xw_get (ci := 11) (k := 39) (v := .ref (B 39)) dX10_go_81 hR1.1 rfl inX10 (by decide) tw_830 (Or.inl rfl) rfl ?_
        refine xw_iconst (v := 0) dX10_go_84 (by decide) ?_
        refine xw_pc (pc2 := 85) rfl ?_
        refine xw_iald dX10_go_85 (hR1.2.1 39 rfl) in0 ?_
        rw [cl0]
        rw [h01.2.1, (kv 0 p0).1]
        refine xw_iconst (v := 1) dX10_go_86 (by decide) ?_
        refine xw_icmp_ne (tgt := 94) dX10_go_87 (by decide) (fun d4 => ?_) (fun d4 => ?_)
        · have x1 : ¬ (vl w.2.2 0).1 = 1 := d4
          have he : errs (nd σ1 w.1).1 (vl w.2.2 0) (vl w.2.2 1) = 5 := by
            unfold errs
            rw [o6, hw6.1, hw6.2, errOf_0]
            unfold errOf
            rw [if_neg (by decide), if_neg x1, if_neg (fun zz => absurd zz.1 (by decide)), if_neg (fun zz => absurd zz.1 (by decide))]
            rfl
          have hac : acts σ1 w.1 w.2.1 w.2.2 = give σ1 w.1 w.2.1 (0, (nd σ1 w.1).2.1.toInt64) := by
            rw [acts_rk (by omega)]
            unfold rk
            rw [he, if_neg (fun zz => zz rfl), o6]
            rfl
          refine xw_iconst (v := 0) dX10_go_94 (by decide) ?_
          refine xw_aload_n dX10_go_95 rfl rfl ?_
          refine xw_get (ci := 11) (k := 39) (v := .ref (B 39)) dX10_go_96 hR1.1 rfl inX10 (by decide) tw_830 (Or.inl rfl) rfl ?_
          refine xw_iconst (v := 0) dX10_go_99 (by decide) ?_
          refine xw_iald dX10_go_100 (hR1.2.1 39 rfl) in0 ?_
          rw [cl0]
          rw [h01.2.1, (kv 0 p0).1]
          refine xw_iconst (v := 1) dX10_go_101 (by decide) ?_
          refine xw_icmp_ne (tgt := 114) dX10_go_102 (by decide) (fun _ => ?_) (fun zz => absurd zz x1)
          refine xw_aload_n dX10_go_114 rfl rfl ?_
          refine xw_get (ci := 11) (k := 3) (v := .ref (B 3)) dX10_go_115 hR1.1 rfl inX10 (by decide) tw_794 (Or.inl rfl) rfl ?_
          refine xw_iload_n dX10_go_118 rfl rfl ?_
          refine xw_iald dX10_go_119 (hR1.2.1 3 rfl) ini ?_
          rw [nI_clamp i31]
          rw [n2]
          refine xw_i2l dX10_go_120 ?_
          have q1 := ct_msend (G := G) (i := w.1) (s := 0) (c := w.2.1) (v := ((0 : Int32), (nd σ1 w.1).2.1.toInt64)) hRM hG1 hi1 hc1 (by decide) (Or.inl rfl)
          refine xw_callV (q2 := mX10_send) (n2 := 5) (ci := 11) (Bs := [.int (nI w.1), .int (nI 0), .int (nI w.2.1), .int 0, .long (((nd σ1 w.1).2.1).toInt64)]) (rest := []) (q1) dX10_go_121 rfl (o_at hR1.1) rfl rfl tw_969 tw_971 tw_25 tw_47 tw_972 (by decide +kernel) rfl (Nat.le_of_ble_eq_true rfl) (Nat.le_of_ble_eq_true rfl) (Nat.le_of_ble_eq_true rfl) (fun rr M1 hr hle1 => ?_)
          obtain ⟨rfl, hR2, hE2⟩ := hr
          rw [s0] at hR2
          refine xw_goto (tgt := 212) dX10_go_124 (by decide) ?_
          exact xw_vret rfl dX10_go_212 (fin _ _ hac hR2 hE2)
        · have x1 : (vl w.2.2 0).1 = 1 := d4
          obtain ⟨a, ha⟩ : ∃ a, isE (vl w.2.2 0) a := by
            rcases (hv 0 p0).cases with zz | zz | zz
            · rw [zz] at x1; exact absurd x1 (by decide)
            · exact zz
            · rw [zz] at x1; exact absurd x1 (by decide)
          obtain ⟨-, hxa, b1, b2⟩ := id ha
          have he : errs (nd σ1 w.1).1 (vl w.2.2 0) (vl w.2.2 1) = a := by
            unfold errs
            rw [o6, hw6.1, hw6.2, errOf_0, errOf_E (by decide) ha]
            exact Nat.min_eq_left (by omega)
          have hac : acts σ1 w.1 w.2.1 w.2.2 = give σ1 w.1 w.2.1 (1, (vl w.2.2 0).2) := by
            rw [acts_rk (by omega)]
            unfold rk
            rw [he, if_pos (by omega), hxa]
          refine xw_iconst (v := 1) dX10_go_90 (by decide) ?_
          refine xw_goto (tgt := 95) dX10_go_91 (by decide) ?_
          refine xw_aload_n dX10_go_95 rfl rfl ?_
          refine xw_get (ci := 11) (k := 39) (v := .ref (B 39)) dX10_go_96 hR1.1 rfl inX10 (by decide) tw_830 (Or.inl rfl) rfl ?_
          refine xw_iconst (v := 0) dX10_go_99 (by decide) ?_
          refine xw_pc (pc2 := 100) rfl ?_
          refine xw_iald dX10_go_100 (hR1.2.1 39 rfl) in0 ?_
          rw [cl0]
          rw [h01.2.1, (kv 0 p0).1]
          refine xw_iconst (v := 1) dX10_go_101 (by decide) ?_
          refine xw_icmp_ne (tgt := 114) dX10_go_102 (by decide) (fun zz => absurd x1 zz) (fun _ => ?_)
          refine xw_aload_n dX10_go_105 rfl rfl ?_
          refine xw_get (ci := 11) (k := 40) (v := .ref (B 40)) dX10_go_106 hR1.1 rfl inX10 (by decide) tw_831 (Or.inl rfl) rfl ?_
          refine xw_iconst (v := 0) dX10_go_109 (by decide) ?_
          refine xw_lald dX10_go_110 (hR1.2.2.1 40 rfl) in0 ?_
          rw [cl0]
          rw [h01.2.2, (kv 0 p0).2]
          refine xw_goto (tgt := 121) dX10_go_111 (by decide) ?_
          have q1 := ct_msend (G := G) (i := w.1) (s := 0) (c := w.2.1) (v := ((1 : Int32), (vl w.2.2 0).2)) hRM hG1 hi1 hc1 (by decide) (Or.inr (Or.inl ⟨rfl, a, b1, b2, hxa⟩))
          refine xw_callV (q2 := mX10_send) (n2 := 5) (ci := 11) (Bs := [.int (nI w.1), .int (nI 0), .int (nI w.2.1), .int 1, .long (vl w.2.2 0).2]) (rest := []) (q1) dX10_go_121 rfl (o_at hR1.1) rfl rfl tw_969 tw_971 tw_25 tw_47 tw_972 (by decide +kernel) rfl (Nat.le_of_ble_eq_true rfl) (Nat.le_of_ble_eq_true rfl) (Nat.le_of_ble_eq_true rfl) (fun rr M1 hr hle1 => ?_)
          obtain ⟨rfl, hR2, hE2⟩ := hr
          rw [s0] at hR2
          refine xw_goto (tgt := 212) dX10_go_124 (by decide) ?_
          exact xw_vret rfl dX10_go_212 (fin _ _ hac hR2 hE2)
    · have o5 : (nd σ1 w.1).1 ≤ 5 := Nat.le_of_not_lt (fun zz => d2 (show nI 5 < nI (nd σ1 w.1).1 from nI_lt zz (by omega)))
      have pt2 : 1 < pts σ1 w.1 := by
        rw [hpts]
        rcases (show (nd σ1 w.1).1 = 1 ∨ (nd σ1 w.1).1 = 2 ∨ (nd σ1 w.1).1 = 3 ∨ (nd σ1 w.1).1 = 4 ∨ (nd σ1 w.1).1 = 5 by omega) with e | e | e | e | e <;> rw [e] <;> decide
      refine xw_aload_n dX10_go_60 rfl rfl ?_
      refine xw_iload_n dX10_go_61 rfl rfl ?_
      refine xw_iload_n dX10_go_62 rfl rfl ?_
      have q1 := ct_mreckon (G := G) (i := w.1) (c := w.2.1) (x := vl w.2.2 0) (y := vl w.2.2 1) hRM hG1 hN1 hi1 hc1 ⟨by omega, o5⟩ (hv 0 p0) (hv 1 pt2) (kv 0 p0) (kv 1 pt2)
      refine xw_callV (q2 := mX10_reckon) (n2 := 2) (ci := 11) (Bs := [.int (nI w.1), .int (nI w.2.1)]) (rest := []) (q1) dX10_go_63 rfl (o_at hR1.1) rfl rfl tw_973 tw_975 tw_26 tw_47 tw_976 (by decide +kernel) rfl (Nat.le_of_ble_eq_true rfl) (Nat.le_of_ble_eq_true rfl) (Nat.le_of_ble_eq_true rfl) (fun rr M1 hr hle1 => ?_)
      obtain ⟨rfl, hR2, hE2⟩ := hr
      refine xw_goto (tgt := 212) dX10_go_66 (by decide) ?_
      exact xw_vret rfl dX10_go_212 (fin _ _ (acts_rk (by omega)) hR2 hE2)
  · have o0 : (nd σ1 w.1).1 = 0 := (opn 0 (by decide)).mp d1
    have hac : acts σ1 w.1 w.2.1 w.2.2 = give σ1 w.1 w.2.1 (vl w.2.2 0) := by
      rw [acts_0 (w0 _ ho18 (Or.inl o0))]
      unfold actBy
      rw [if_pos (by omega), o0]
      rfl
    refine xw_aload_n dX10_go_32 rfl rfl ?_
    refine xw_iload_n dX10_go_33 rfl rfl ?_
    refine xw_iconst (v := 0) dX10_go_34 (by decide) ?_
    refine xw_iload_n dX10_go_35 rfl rfl ?_
    refine xw_aload_n dX10_go_36 rfl rfl ?_
    refine xw_get (ci := 11) (k := 39) (v := .ref (B 39)) dX10_go_37 hR1.1 rfl inX10 (by decide) tw_830 (Or.inl rfl) rfl ?_
    refine xw_iconst (v := 0) dX10_go_40 (by decide) ?_
    refine xw_pc (pc2 := 41) rfl ?_
    refine xw_iald dX10_go_41 (hR1.2.1 39 rfl) in0 ?_
    rw [cl0]
    rw [h01.2.1, (kv 0 p0).1]
    refine xw_aload_n dX10_go_42 rfl rfl ?_
    refine xw_get (ci := 11) (k := 40) (v := .ref (B 40)) dX10_go_43 hR1.1 rfl inX10 (by decide) tw_831 (Or.inl rfl) rfl ?_
    refine xw_iconst (v := 0) dX10_go_46 (by decide) ?_
    refine xw_lald dX10_go_47 (hR1.2.2.1 40 rfl) in0 ?_
    rw [cl0]
    rw [h01.2.2, (kv 0 p0).2]
    have q1 := ct_msend (G := G) (i := w.1) (s := 0) (c := w.2.1) (v := vl w.2.2 0) hRM hG1 hi1 hc1 (by decide) (hv 0 p0)
    refine xw_callV (q2 := mX10_send) (n2 := 5) (ci := 11) (Bs := [.int (nI w.1), .int (nI 0), .int (nI w.2.1), .int (vl w.2.2 0).1, .long (vl w.2.2 0).2]) (rest := []) (q1) dX10_go_48 rfl (o_at hR1.1) rfl rfl tw_969 tw_971 tw_25 tw_47 tw_972 (by decide +kernel) rfl (Nat.le_of_ble_eq_true rfl) (Nat.le_of_ble_eq_true rfl) (Nat.le_of_ble_eq_true rfl) (fun rr M1 hr hle1 => ?_)
    obtain ⟨rfl, hR2, hE2⟩ := hr
    rw [send_0 hN1 hi1 (by omega)] at hR2
    refine xw_goto (tgt := 212) dX10_go_51 (by decide) ?_
    exact xw_vret rfl dX10_go_212 (fin _ _ hac hR2 hE2)
end MRUN
