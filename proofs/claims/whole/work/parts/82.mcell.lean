/-! THE REFERENCE: cell, waiting -/
abbrev celC (σ : hs_S) (a b w : Int32) : Prop := (¬ a < 0 ∧ a < nI (sA σ)) ∧ (¬ b < 0 ∧ b < nI (sLe σ a.toNatClampNeg)) ∧ ¬ w < 0 ∧ w ≤ 2
section MCELL
variable {G : hx_G} {M M1 : hx_S} {m : Nat} {B : Nat → Nat} {ρ ρ' : hr_S} {σ σ' : hs_S} {T : List TK} {i c s na d o : Nat} {x y z : V2} {th : Int32} {K : Nat → Int32} {V : Nat → Int64}
theorem count_s {α : Type} (f : α → Bool) (l : List α) {j : Nat} {e : α} (h : l[j]? = some e) : ((l.take (j + 1)).filter f).length = ((l.take j).filter f).length + (if f e = true then 1 else 0) := by
  rw [List.take_succ, h, List.filter_append, List.length_append]
  congr 1
  show ([e].filter f).length = _
  by_cases z : f e = true
  · rw [List.filter_cons_of_pos z, if_pos z]; rfl
  · rw [List.filter_cons_of_neg z, if_neg z]; rfl
theorem ct_mcellN {a b w : Int32} (h : RM M m B σ th K V) (hG : GS σ) (hn : ¬ celC σ a b w) : CT G 0 0 mX10_cell [.ref m, .int a, .int b, .int w] M (fun r M1 => r = some (.long 0) ∧ RM M1 m B σ 1 K V ∧ EF M M1 m B) := by
  obtain ⟨ρ, T, hR, h0, hAb, hT, hW⟩ := id h
  have hA40 := hG.2.2.2.1.1
  have hAr := hAb.2.2.1
  have out : XW G 0 0 mX10_cell [.ref m, .int a, .int b, .int w] M (fun r M1 => r = some (.long 0) ∧ RM M1 m B σ 1 K V ∧ EF M M1 m B) M 36 [(0, .ref m), (1, .int a), (2, .int b), (3, .int w)] [.ref m] := by
    refine xw_iconst (v := 1) dX10_cell_36 (by decide) ?_
    refine xw_goto (tgt := 41) dX10_cell_37 (by decide) ?_
    refine xw_put (ci := 11) (k := 0) tyX10 dX10_cell_41 hR.1 rfl inX10 tyX10_ok nmX10 (by decide) tw_791 (Or.inl rfl) rfl rfl rfl rfl (Nat.le_of_ble_eq_true rfl) ?_
    dsimp only [flM, List.set]
    have hR1 : RW (oput M 11 m (some [.int (1), .int (ρ.1 1), .ref (B 2), .ref (B 3), .ref (B 4), .ref (B 5), .ref (B 6), .ref (B 7), .int (ρ.1 8), .int (ρ.1 9), .ref (B 10), .ref (B 11), .ref (B 12), .int (ρ.1 13), .ref (B 14), .ref (B 15), .ref (B 16), .int (ρ.1 17), .ref (B 18), .ref (B 19), .ref (B 20), .ref (B 21), .ref (B 22), .int (ρ.1 23), .ref (B 24), .ref (B 25), .ref (B 26), .ref (B 27), .int (ρ.1 28), .ref (B 29), .ref (B 30), .ref (B 31), .int (ρ.1 32), .ref (B 33), .ref (B 34), .ref (B 35), .int (ρ.1 36), .int (ρ.1 37), .int (ρ.1 38), .ref (B 39), .ref (B 40)])) m B (rS ρ 0 1) := hR.sset (k := 0) (v := 1)
    have hE1 : EF M (oput M 11 m (some [.int (1), .int (ρ.1 1), .ref (B 2), .ref (B 3), .ref (B 4), .ref (B 5), .ref (B 6), .ref (B 7), .int (ρ.1 8), .int (ρ.1 9), .ref (B 10), .ref (B 11), .ref (B 12), .int (ρ.1 13), .ref (B 14), .ref (B 15), .ref (B 16), .int (ρ.1 17), .ref (B 18), .ref (B 19), .ref (B 20), .ref (B 21), .ref (B 22), .int (ρ.1 23), .ref (B 24), .ref (B 25), .ref (B 26), .ref (B 27), .int (ρ.1 28), .ref (B 29), .ref (B 30), .ref (B 31), .int (ρ.1 32), .ref (B 33), .ref (B 34), .ref (B 35), .int (ρ.1 36), .int (ρ.1 37), .int (ρ.1 38), .ref (B 39), .ref (B 40)])) m B := (EF.rf M m B).tr EF.o
    generalize oput M 11 m (some [.int (1), .int (ρ.1 1), .ref (B 2), .ref (B 3), .ref (B 4), .ref (B 5), .ref (B 6), .ref (B 7), .int (ρ.1 8), .int (ρ.1 9), .ref (B 10), .ref (B 11), .ref (B 12), .int (ρ.1 13), .ref (B 14), .ref (B 15), .ref (B 16), .int (ρ.1 17), .ref (B 18), .ref (B 19), .ref (B 20), .ref (B 21), .ref (B 22), .int (ρ.1 23), .ref (B 24), .ref (B 25), .ref (B 26), .ref (B 27), .int (ρ.1 28), .ref (B 29), .ref (B 30), .ref (B 31), .int (ρ.1 32), .ref (B 33), .ref (B 34), .ref (B 35), .int (ρ.1 36), .int (ρ.1 37), .int (ρ.1 38), .ref (B 39), .ref (B 40)]) = M1 at hR1 hE1 ⊢
    refine xw_aload_n dX10_cell_44 rfl rfl ?_
    refine xw_get (ci := 11) (k := 0) (v := .int ((rS ρ 0 1).1 0)) dX10_cell_45 hR1.1 rfl inX10 (by decide) tw_791 (Or.inl rfl) rfl ?_
    refine xw_if_le (tgt := 53) dX10_cell_48 (by decide) (fun zz => absurd zz (show ¬ (rS ρ 0 1).1 0 ≤ 0 by rw [rS_1, if_pos rfl]; decide)) (fun _ => ?_)
    refine xw_lconst (v := 0) dX10_cell_51 (by decide) ?_
    exact xw_lret rfl dX10_cell_52 ⟨rfl, RM.th' hR h0.2 hAb hT hW hR1, hE1⟩
  refine ct_go (by decide +kernel) (Nat.le_of_ble_eq_true rfl) (L := [(0, .ref m), (1, .int a), (2, .int b), (3, .int w)]) rfl ?_
  refine xw_aload_n dX10_cell_0 rfl rfl ?_
  refine xw_iload_n dX10_cell_1 rfl rfl ?_
  refine xw_if_lt (tgt := 36) dX10_cell_2 (by decide) (fun d1 => ?_) (fun d1 => ?_)
  · exact xw_pc rfl out
  · skip
    refine xw_iload_n dX10_cell_5 rfl rfl ?_
    refine xw_aload_n dX10_cell_6 rfl rfl ?_
    refine xw_get (ci := 11) (k := 13) (v := .int (ρ.1 13)) dX10_cell_7 hR.1 rfl inX10 (by decide) tw_804 (Or.inl rfl) rfl ?_
    rw [hAr.1]
    refine xw_icmp_ge (tgt := 36) dX10_cell_10 (by decide) (fun d2 => ?_) (fun d2 => ?_)
    · exact xw_pc rfl out
    · obtain ⟨j, hj, hje, -⟩ := pk_mu d1 d2 (show sA σ < 2 ^ 31 by omega)
      refine xw_iload_n dX10_cell_13 rfl rfl ?_
      refine xw_if_lt (tgt := 36) dX10_cell_14 (by decide) (fun d3 => ?_) (fun d3 => ?_)
      · exact xw_pc rfl out
      · skip
        refine xw_iload_n dX10_cell_17 rfl rfl ?_
        refine xw_aload_n dX10_cell_18 rfl rfl ?_
        refine xw_get (ci := 11) (k := 14) (v := .ref (B 14)) dX10_cell_19 hR.1 rfl inX10 (by decide) tw_805 (Or.inl rfl) rfl ?_
        refine xw_iload_n dX10_cell_22 rfl rfl ?_
        refine xw_pc (pc2 := 23) rfl ?_
        rw [hje]
        refine xw_iald dX10_cell_23 (hR.2.1 14 rfl) (vp_in_nI (show j < 40 by omega) (by decide)) ?_
        rw [nI_clamp (by omega)]
        rw [hAr.2.1 j hj]
        rw [← hje]
        refine xw_icmp_ge (tgt := 36) dX10_cell_24 (by decide) (fun d4 => ?_) (fun d4 => ?_)
        · exact xw_pc rfl out
        · have h4 : b < nI (sLe σ a.toNatClampNeg) := by rw [hje, nI_clamp (by omega)]; exact Int32.not_le.mp d4
          refine xw_iload_n dX10_cell_27 rfl rfl ?_
          refine xw_if_lt (tgt := 36) dX10_cell_28 (by decide) (fun d5 => ?_) (fun d5 => ?_)
          · exact xw_pc rfl out
          · skip
            refine xw_iload_n dX10_cell_31 rfl rfl ?_
            refine xw_iconst (v := 2) dX10_cell_32 (by decide) ?_
            refine xw_icmp_le (tgt := 40) dX10_cell_33 (by decide) (fun zz => absurd zz (show ¬ w ≤ 2 from fun zz => hn ⟨⟨d1, Int32.not_le.mp d2⟩, ⟨d3, h4⟩, d5, zz⟩)) (fun _ => ?_)
            exact xw_pc rfl out
theorem ct_mcell {a b : Nat} {w : Int32} (h : RM M m B σ th K V) (hG : GS σ) (ha : a < sA σ) (hb : b < sLe σ a) (hw : ¬ w < 0 ∧ w ≤ 2) : CT G 0 0 mX10_cell [.ref m, .int (nI a), .int (nI b), .int w] M (fun r M1 => r = some (.long (cel σ (8 * a + b) w)) ∧ RM M1 m B σ 0 K V ∧ EF M M1 m B) := by
  obtain ⟨ρ0, T0, hR0, h00, hAb0, hT0, hW0⟩ := id h
  have hA40 := hG.2.2.2.1.1
  have hl8 := hG.2.2.2.1.2.1 a ha
  have hq1 := hG.2.2.2.2.2.2.2.2.1.1
  have a31 : a < 2 ^ 31 := by omega
  have ina : vp_in (nI a) 40 := vp_in_nI (by omega) (by decide)
  have ind : vp_in (nI (8 * a + b)) 320 := vp_in_nI (by omega) (by decide)
  have d31 : 8 * a + b < 2 ^ 31 := by omega
  have m8 : 8 * nI a + nI b = nI (8 * a + b) := by rw [show (8 : Int32) = nI 8 from by decide +kernel, pk_mul, nI_add]
  refine ct_go (by decide +kernel) (Nat.le_of_ble_eq_true rfl) (L := [(0, .ref m), (1, .int (nI a)), (2, .int (nI b)), (3, .int w)]) rfl ?_
  refine xw_aload_n dX10_cell_0 rfl rfl ?_
  refine xw_iload_n dX10_cell_1 rfl rfl ?_
  refine xw_if_lt (tgt := 36) dX10_cell_2 (by decide) (fun zz => absurd zz (nI_pos (by omega))) (fun _ => ?_)
  refine xw_iload_n dX10_cell_5 rfl rfl ?_
  refine xw_aload_n dX10_cell_6 rfl rfl ?_
  refine xw_get (ci := 11) (k := 13) (v := .int (ρ0.1 13)) dX10_cell_7 hR0.1 rfl inX10 (by decide) tw_804 (Or.inl rfl) rfl ?_
  rw [hAb0.2.2.1.1]
  refine xw_icmp_ge (tgt := 36) dX10_cell_10 (by decide) (fun zz => absurd zz (nI_ge ha (by omega))) (fun _ => ?_)
  refine xw_iload_n dX10_cell_13 rfl rfl ?_
  refine xw_if_lt (tgt := 36) dX10_cell_14 (by decide) (fun zz => absurd zz (nI_pos (by omega))) (fun _ => ?_)
  refine xw_iload_n dX10_cell_17 rfl rfl ?_
  refine xw_aload_n dX10_cell_18 rfl rfl ?_
  refine xw_get (ci := 11) (k := 14) (v := .ref (B 14)) dX10_cell_19 hR0.1 rfl inX10 (by decide) tw_805 (Or.inl rfl) rfl ?_
  refine xw_iload_n dX10_cell_22 rfl rfl ?_
  refine xw_pc (pc2 := 23) rfl ?_
  refine xw_iald dX10_cell_23 (hR0.2.1 14 rfl) ina ?_
  rw [nI_clamp a31]
  rw [hAb0.2.2.1.2.1 a ha]
  refine xw_icmp_ge (tgt := 36) dX10_cell_24 (by decide) (fun zz => absurd zz (nI_ge hb (by omega))) (fun _ => ?_)
  refine xw_iload_n dX10_cell_27 rfl rfl ?_
  refine xw_if_lt (tgt := 36) dX10_cell_28 (by decide) (fun zz => absurd zz hw.1) (fun _ => ?_)
  refine xw_iload_n dX10_cell_31 rfl rfl ?_
  refine xw_iconst (v := 2) dX10_cell_32 (by decide) ?_
  refine xw_icmp_le (tgt := 40) dX10_cell_33 (by decide) (fun _ => ?_) (fun zz => absurd hw.2 zz)
  refine xw_iconst (v := 0) dX10_cell_40 (by decide) ?_
  refine xw_put (ci := 11) (k := 0) tyX10 dX10_cell_41 hR0.1 rfl inX10 tyX10_ok nmX10 (by decide) tw_791 (Or.inl rfl) rfl rfl rfl rfl (Nat.le_of_ble_eq_true rfl) ?_
  dsimp only [flM, List.set]
  have hR1 : RW (oput M 11 m (some [.int (0), .int (ρ0.1 1), .ref (B 2), .ref (B 3), .ref (B 4), .ref (B 5), .ref (B 6), .ref (B 7), .int (ρ0.1 8), .int (ρ0.1 9), .ref (B 10), .ref (B 11), .ref (B 12), .int (ρ0.1 13), .ref (B 14), .ref (B 15), .ref (B 16), .int (ρ0.1 17), .ref (B 18), .ref (B 19), .ref (B 20), .ref (B 21), .ref (B 22), .int (ρ0.1 23), .ref (B 24), .ref (B 25), .ref (B 26), .ref (B 27), .int (ρ0.1 28), .ref (B 29), .ref (B 30), .ref (B 31), .int (ρ0.1 32), .ref (B 33), .ref (B 34), .ref (B 35), .int (ρ0.1 36), .int (ρ0.1 37), .int (ρ0.1 38), .ref (B 39), .ref (B 40)])) m B (rS ρ0 0 0) := hR0.sset (k := 0) (v := 0)
  have hE1 : EF M (oput M 11 m (some [.int (0), .int (ρ0.1 1), .ref (B 2), .ref (B 3), .ref (B 4), .ref (B 5), .ref (B 6), .ref (B 7), .int (ρ0.1 8), .int (ρ0.1 9), .ref (B 10), .ref (B 11), .ref (B 12), .int (ρ0.1 13), .ref (B 14), .ref (B 15), .ref (B 16), .int (ρ0.1 17), .ref (B 18), .ref (B 19), .ref (B 20), .ref (B 21), .ref (B 22), .int (ρ0.1 23), .ref (B 24), .ref (B 25), .ref (B 26), .ref (B 27), .int (ρ0.1 28), .ref (B 29), .ref (B 30), .ref (B 31), .int (ρ0.1 32), .ref (B 33), .ref (B 34), .ref (B 35), .int (ρ0.1 36), .int (ρ0.1 37), .int (ρ0.1 38), .ref (B 39), .ref (B 40)])) m B := (EF.rf M m B).tr EF.o
  generalize oput M 11 m (some [.int (0), .int (ρ0.1 1), .ref (B 2), .ref (B 3), .ref (B 4), .ref (B 5), .ref (B 6), .ref (B 7), .int (ρ0.1 8), .int (ρ0.1 9), .ref (B 10), .ref (B 11), .ref (B 12), .int (ρ0.1 13), .ref (B 14), .ref (B 15), .ref (B 16), .int (ρ0.1 17), .ref (B 18), .ref (B 19), .ref (B 20), .ref (B 21), .ref (B 22), .int (ρ0.1 23), .ref (B 24), .ref (B 25), .ref (B 26), .ref (B 27), .int (ρ0.1 28), .ref (B 29), .ref (B 30), .ref (B 31), .int (ρ0.1 32), .ref (B 33), .ref (B 34), .ref (B 35), .int (ρ0.1 36), .int (ρ0.1 37), .int (ρ0.1 38), .ref (B 39), .ref (B 40)]) = M1 at hR1 hE1 ⊢
  have hRM : RM M1 m B σ 0 K V := RM.th' hR0 h00.2 hAb0 hT0 hW0 hR1
  obtain ⟨ρ, T, hR, h0, hAb, hT, hW⟩ := id hRM
  have hK := hAb.2.2.2.2.1
  obtain ⟨c1, c2⟩ := hAb.2.2.1.2.2 (8 * a + b) (by omega)
  generalize hMM : M1 = M2 at hRM hE1 hR ⊢
  clear hMM hR1
  have loop : ∀ (n j : Nat), j + n = (sK σ).length → XW G 0 0 mX10_cell [.ref m, .int (nI a), .int (nI b), .int w] M (fun r M1 => r = some (.long (cel σ (8 * a + b) w)) ∧ RM M1 m B σ 0 K V ∧ EF M M1 m B) M2 67 [(6, .int (nI j)), (5, .int (nI (((sK σ).take j).filter (fun x => x.2.2 == 8 * a + b)).length)), (4, .int (nI (8 * a + b))), (0, .ref m), (1, .int (nI a)), (2, .int (nI b)), (3, .int w)] [] := by
    intro n
    induction n with
    | zero =>
      intro j hj
      obtain rfl : j = (sK σ).length := by omega
      rw [List.take_length]
      refine xw_iload dX10_cell_67 rfl ?_
      refine xw_aload_n dX10_cell_69 rfl rfl ?_
      refine xw_get (ci := 11) (k := 28) (v := .int (ρ.1 28)) dX10_cell_70 hR.1 rfl inX10 (by decide) tw_819 (Or.inl rfl) rfl ?_
      rw [hK.1]
      refine xw_icmp_ge (tgt := 104) dX10_cell_73 (by decide) (fun _ => ?_) (fun zz => absurd (nI_le (Nat.le_refl _) (by omega)) zz)
      refine xw_iload_n dX10_cell_104 rfl rfl ?_
      refine xw_if_ne (tgt := 119) dX10_cell_105 (by decide) (fun v0 => ?_) (fun v0 => ?_)
      · skip
        refine xw_iload_n dX10_cell_119 rfl rfl ?_
        refine xw_iconst (v := 1) dX10_cell_120 (by decide) ?_
        refine xw_icmp_ne (tgt := 134) dX10_cell_121 (by decide) (fun v1 => ?_) (fun v1 => ?_)
        · skip
          refine xw_iload dX10_cell_134 rfl ?_
          refine xw_i2l dX10_cell_136 ?_
          exact xw_lret rfl dX10_cell_137 ⟨by unfold cel; rw [if_neg v0, if_neg v1]; rfl, hRM, hE1⟩
        · skip
          refine xw_aload_n dX10_cell_124 rfl rfl ?_
          refine xw_get (ci := 11) (k := 16) (v := .ref (B 16)) dX10_cell_125 hR.1 rfl inX10 (by decide) tw_807 (Or.inl rfl) rfl ?_
          refine xw_iload dX10_cell_128 rfl ?_
          refine xw_pc (pc2 := 130) rfl ?_
          refine xw_lald dX10_cell_130 (hR.2.2.1 16 rfl) ind ?_
          rw [nI_clamp d31]
          rw [c2]
          refine xw_goto (tgt := 137) dX10_cell_131 (by decide) ?_
          exact xw_lret rfl dX10_cell_137 ⟨by unfold cel; rw [if_neg v0, if_pos v1], hRM, hE1⟩
      · skip
        refine xw_aload_n dX10_cell_108 rfl rfl ?_
        refine xw_get (ci := 11) (k := 15) (v := .ref (B 15)) dX10_cell_109 hR.1 rfl inX10 (by decide) tw_806 (Or.inl rfl) rfl ?_
        refine xw_iload dX10_cell_112 rfl ?_
        refine xw_iald dX10_cell_114 (hR.2.1 15 rfl) ind ?_
        rw [nI_clamp d31]
        rw [c1]
        refine xw_i2l dX10_cell_115 ?_
        refine xw_goto (tgt := 137) dX10_cell_116 (by decide) ?_
        exact xw_lret rfl dX10_cell_137 ⟨by unfold cel; rw [if_pos v0], hRM, hE1⟩
    | succ n ih =>
      intro j hj
      have hjl : j < (sK σ).length := by omega
      obtain ⟨e, he⟩ : ∃ e, (sK σ)[j]? = some e := ⟨_, List.getElem?_eq_getElem hjl⟩
      obtain ⟨-, -, a3⟩ := hK.2 j e he
      obtain ⟨-, -, ck, cj, g3, g4, g5⟩ := hG.2.2.2.2.2.2.1 e (List.mem_of_getElem? he)
      have h8 := hG.2.2.2.1.2.1 ck g3
      have inj : vp_in (nI j) 302 := vp_in_nI (by omega) (by decide)
      have j31 : j < 2 ^ 31 := by omega
      have hcs := count_s (fun x : N3 => x.2.2 == 8 * a + b) (sK σ) he
      have ihj := ih (j + 1) (by omega)
      generalize (((sK σ).take j).filter (fun x => x.2.2 == 8 * a + b)).length = q at hcs ⊢
      refine xw_iload dX10_cell_67 rfl ?_
      refine xw_aload_n dX10_cell_69 rfl rfl ?_
      refine xw_get (ci := 11) (k := 28) (v := .int (ρ.1 28)) dX10_cell_70 hR.1 rfl inX10 (by decide) tw_819 (Or.inl rfl) rfl ?_
      rw [hK.1]
      refine xw_icmp_ge (tgt := 104) dX10_cell_73 (by decide) (fun zz => absurd zz (nI_ge hjl (by omega))) (fun _ => ?_)
      refine xw_iload dX10_cell_76 rfl ?_
      refine xw_aload_n dX10_cell_78 rfl rfl ?_
      refine xw_get (ci := 11) (k := 31) (v := .ref (B 31)) dX10_cell_79 hR.1 rfl inX10 (by decide) tw_822 (Or.inl rfl) rfl ?_
      refine xw_iload dX10_cell_82 rfl ?_
      refine xw_pc (pc2 := 84) rfl ?_
      refine xw_iald dX10_cell_84 (hR.2.1 31 rfl) inj ?_
      rw [nI_clamp j31]
      rw [a3]
      refine xw_iload dX10_cell_85 rfl ?_
      refine xw_icmp_ne (tgt := 94) dX10_cell_87 (by decide) (fun v0 => ?_) (fun v0 => ?_)
      · have hne : ¬ e.2.2 = 8 * a + b := fun zz => v0 (by rw [zz])
        rw [hcs, if_neg (by simp [hne])] at ihj
        refine xw_iconst (v := 0) dX10_cell_94 (by decide) ?_
        refine xw_iadd dX10_cell_95 ?_
        refine xw_istore (L2 := [(5, .int ((nI q) + 0)), (6, .int (nI j)), (4, .int (nI (8 * a + b))), (0, .ref m), (1, .int (nI a)), (2, .int (nI b)), (3, .int w)]) dX10_cell_96 (by decide) rfl ?_
        refine xw_iinc (v := (nI j) + 1) (L2 := [(6, .int ((nI j) + 1)), (5, .int ((nI q) + 0)), (4, .int (nI (8 * a + b))), (0, .ref m), (1, .int (nI a)), (2, .int (nI b)), (3, .int w)]) dX10_cell_98 rfl rfl (by decide) rfl ?_
        refine xw_goto (tgt := 67) dX10_cell_101 (by decide) ?_
        rw [nI_1, show nI q + 0 = nI (q + 0) by rw [show (0 : Int32) = nI 0 from rfl, nI_add]]
        refine xw_mem (L2 := [(6, .int (nI (j + 1))), (5, .int (nI (q + 0))), (4, .int (nI (8 * a + b))), (0, .ref m), (1, .int (nI a)), (2, .int (nI b)), (3, .int w)]) (by simp) ?_
        exact ihj
      · have heq : e.2.2 = 8 * a + b := (nI_eq (by omega) d31).mp v0
        rw [hcs, if_pos (by simp [heq])] at ihj
        refine xw_iconst (v := 1) dX10_cell_90 (by decide) ?_
        refine xw_goto (tgt := 95) dX10_cell_91 (by decide) ?_
        refine xw_iadd dX10_cell_95 ?_
        refine xw_istore (L2 := [(5, .int ((nI q) + 1)), (6, .int (nI j)), (4, .int (nI (8 * a + b))), (0, .ref m), (1, .int (nI a)), (2, .int (nI b)), (3, .int w)]) dX10_cell_96 (by decide) rfl ?_
        refine xw_iinc (v := (nI j) + 1) (L2 := [(6, .int ((nI j) + 1)), (5, .int ((nI q) + 1)), (4, .int (nI (8 * a + b))), (0, .ref m), (1, .int (nI a)), (2, .int (nI b)), (3, .int w)]) dX10_cell_98 rfl rfl (by decide) rfl ?_
        refine xw_goto (tgt := 67) dX10_cell_101 (by decide) ?_
        rw [nI_1, nI_1]
        refine xw_mem (L2 := [(6, .int (nI (j + 1))), (5, .int (nI (q + 1))), (4, .int (nI (8 * a + b))), (0, .ref m), (1, .int (nI a)), (2, .int (nI b)), (3, .int w)]) (by simp) ?_
        exact ihj
  refine xw_aload_n dX10_cell_44 rfl rfl ?_
  refine xw_get (ci := 11) (k := 0) (v := .int (ρ.1 0)) dX10_cell_45 hR.1 rfl inX10 (by decide) tw_791 (Or.inl rfl) rfl ?_
  refine xw_pc (pc2 := 48) rfl ?_
  rw [h0.1]
  refine xw_if_le (tgt := 53) dX10_cell_48 (by decide) (fun _ => ?_) (fun zz => absurd (by decide) zz)
  refine xw_bipush (v := 8) dX10_cell_53 (by decide) ?_
  refine xw_iload_n dX10_cell_55 rfl rfl ?_
  refine xw_imul dX10_cell_56 ?_
  refine xw_iload_n dX10_cell_57 rfl rfl ?_
  refine xw_iadd dX10_cell_58 ?_
  rw [m8]
  refine xw_istore (L2 := [(4, .int (nI (8 * a + b))), (0, .ref m), (1, .int (nI a)), (2, .int (nI b)), (3, .int w)]) dX10_cell_59 (by decide) rfl ?_
  refine xw_iconst (v := 0) dX10_cell_61 (by decide) ?_
  refine xw_istore (L2 := [(5, .int 0), (4, .int (nI (8 * a + b))), (0, .ref m), (1, .int (nI a)), (2, .int (nI b)), (3, .int w)]) dX10_cell_62 (by decide) rfl ?_
  refine xw_iconst (v := 0) dX10_cell_64 (by decide) ?_
  refine xw_istore (L2 := [(6, .int 0), (5, .int 0), (4, .int (nI (8 * a + b))), (0, .ref m), (1, .int (nI a)), (2, .int (nI b)), (3, .int w)]) dX10_cell_65 (by decide) rfl ?_
  exact xw_pc rfl (loop (sK σ).length 0 (by omega))
end MCELL
