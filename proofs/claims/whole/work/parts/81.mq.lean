/-! THE REFERENCE: result, context -/
abbrev askC (n : Nat) (a w : Int32) : Prop := (¬ a < 0 ∧ a < nI n) ∧ ¬ w < 0 ∧ w ≤ 2
section MQ
variable {G : hx_G} {M M1 : hx_S} {m : Nat} {B : Nat → Nat} {ρ ρ' : hr_S} {σ σ' : hs_S} {T : List TK} {i c s na d o : Nat} {x y z : V2} {th : Int32} {K : Nat → Int32} {V : Nat → Int64}
theorem ct_mresultN {a w : Int32} (h : RM M m B σ th K V) (hn : ¬ askC (sRs σ).length a w) : CT G 0 0 mX10_result [.ref m, .int a, .int w] M (fun r M1 => r = some (.long 0) ∧ RM M1 m B σ 1 K V ∧ EF M M1 m B) := by
  obtain ⟨ρ, T, hR, h0, hAb, hT, hW⟩ := id h
  have out : XW G 0 0 mX10_result [.ref m, .int a, .int w] M (fun r M1 => r = some (.long 0) ∧ RM M1 m B σ 1 K V ∧ EF M M1 m B) M 22 [(0, .ref m), (1, .int a), (2, .int w)] [.ref m] := by
    refine xw_iconst (v := 1) dX10_result_22 (by decide) ?_
    refine xw_goto (tgt := 27) dX10_result_23 (by decide) ?_
    refine xw_put (ci := 11) (k := 0) tyX10 dX10_result_27 hR.1 rfl inX10 tyX10_ok nmX10 (by decide) tw_791 (Or.inl rfl) rfl rfl rfl rfl (Nat.le_of_ble_eq_true rfl) ?_
    dsimp only [flM, List.set]
    have hR1 : RW (oput M 11 m (some [.int (1), .int (ρ.1 1), .ref (B 2), .ref (B 3), .ref (B 4), .ref (B 5), .ref (B 6), .ref (B 7), .int (ρ.1 8), .int (ρ.1 9), .ref (B 10), .ref (B 11), .ref (B 12), .int (ρ.1 13), .ref (B 14), .ref (B 15), .ref (B 16), .int (ρ.1 17), .ref (B 18), .ref (B 19), .ref (B 20), .ref (B 21), .ref (B 22), .int (ρ.1 23), .ref (B 24), .ref (B 25), .ref (B 26), .ref (B 27), .int (ρ.1 28), .ref (B 29), .ref (B 30), .ref (B 31), .int (ρ.1 32), .ref (B 33), .ref (B 34), .ref (B 35), .int (ρ.1 36), .int (ρ.1 37), .int (ρ.1 38), .ref (B 39), .ref (B 40)])) m B (rS ρ 0 1) := hR.sset (k := 0) (v := 1)
    have hE1 : EF M (oput M 11 m (some [.int (1), .int (ρ.1 1), .ref (B 2), .ref (B 3), .ref (B 4), .ref (B 5), .ref (B 6), .ref (B 7), .int (ρ.1 8), .int (ρ.1 9), .ref (B 10), .ref (B 11), .ref (B 12), .int (ρ.1 13), .ref (B 14), .ref (B 15), .ref (B 16), .int (ρ.1 17), .ref (B 18), .ref (B 19), .ref (B 20), .ref (B 21), .ref (B 22), .int (ρ.1 23), .ref (B 24), .ref (B 25), .ref (B 26), .ref (B 27), .int (ρ.1 28), .ref (B 29), .ref (B 30), .ref (B 31), .int (ρ.1 32), .ref (B 33), .ref (B 34), .ref (B 35), .int (ρ.1 36), .int (ρ.1 37), .int (ρ.1 38), .ref (B 39), .ref (B 40)])) m B := (EF.rf M m B).tr EF.o
    generalize oput M 11 m (some [.int (1), .int (ρ.1 1), .ref (B 2), .ref (B 3), .ref (B 4), .ref (B 5), .ref (B 6), .ref (B 7), .int (ρ.1 8), .int (ρ.1 9), .ref (B 10), .ref (B 11), .ref (B 12), .int (ρ.1 13), .ref (B 14), .ref (B 15), .ref (B 16), .int (ρ.1 17), .ref (B 18), .ref (B 19), .ref (B 20), .ref (B 21), .ref (B 22), .int (ρ.1 23), .ref (B 24), .ref (B 25), .ref (B 26), .ref (B 27), .int (ρ.1 28), .ref (B 29), .ref (B 30), .ref (B 31), .int (ρ.1 32), .ref (B 33), .ref (B 34), .ref (B 35), .int (ρ.1 36), .int (ρ.1 37), .int (ρ.1 38), .ref (B 39), .ref (B 40)]) = M1 at hR1 hE1 ⊢
    refine xw_aload_n dX10_result_30 rfl rfl ?_
    refine xw_get (ci := 11) (k := 0) (v := .int ((rS ρ 0 1).1 0)) dX10_result_31 hR1.1 rfl inX10 (by decide) tw_791 (Or.inl rfl) rfl ?_
    refine xw_if_le (tgt := 39) dX10_result_34 (by decide) (fun zz => absurd zz (show ¬ (rS ρ 0 1).1 0 ≤ 0 by rw [rS_1, if_pos rfl]; decide)) (fun _ => ?_)
    refine xw_lconst (v := 0) dX10_result_37 (by decide) ?_
    exact xw_lret rfl dX10_result_38 ⟨rfl, RM.th' hR h0.2 hAb hT hW hR1, hE1⟩
  refine ct_go (by decide +kernel) (Nat.le_of_ble_eq_true rfl) (L := [(0, .ref m), (1, .int a), (2, .int w)]) rfl ?_
  refine xw_aload_n dX10_result_0 rfl rfl ?_
  refine xw_iload_n dX10_result_1 rfl rfl ?_
  refine xw_if_lt (tgt := 22) dX10_result_2 (by decide) (fun d1 => ?_) (fun d1 => ?_)
  · exact xw_pc rfl out
  · skip
    refine xw_iload_n dX10_result_5 rfl rfl ?_
    refine xw_aload_n dX10_result_6 rfl rfl ?_
    refine xw_get (ci := 11) (k := 32) (v := .int (ρ.1 32)) dX10_result_7 hR.1 rfl inX10 (by decide) tw_823 (Or.inl rfl) rfl ?_
    rw [hAb.2.2.2.2.2.1.1]
    refine xw_icmp_ge (tgt := 22) dX10_result_10 (by decide) (fun d2 => ?_) (fun d2 => ?_)
    · exact xw_pc rfl out
    · skip
      refine xw_iload_n dX10_result_13 rfl rfl ?_
      refine xw_if_lt (tgt := 22) dX10_result_14 (by decide) (fun d3 => ?_) (fun d3 => ?_)
      · exact xw_pc rfl out
      · skip
        refine xw_iload_n dX10_result_17 rfl rfl ?_
        refine xw_iconst (v := 2) dX10_result_18 (by decide) ?_
        refine xw_pc (pc2 := 19) rfl ?_
        refine xw_icmp_le (tgt := 26) dX10_result_19 (by decide) (fun zz => absurd zz (show ¬ w ≤ 2 from fun zz => hn ⟨⟨d1, Int32.not_le.mp d2⟩, d3, zz⟩)) (fun _ => ?_)
        exact xw_pc rfl out
theorem ct_mresult {w : Int32} (h : RM M m B σ th K V) (hi : i < (sRs σ).length) (hb : (sRs σ).length ≤ 5001) (hw : ¬ w < 0 ∧ w ≤ 2) : CT G 0 0 mX10_result [.ref m, .int (nI i), .int w] M (fun r M1 => r = some (.long (resu σ i w)) ∧ RM M1 m B σ 0 K V ∧ EF M M1 m B) := by
  obtain ⟨ρ0, T0, hR0, h00, hAb0, hT0, hW0⟩ := id h
  have ini : vp_in (nI i) 5001 := vp_in_nI (by omega) (by decide)
  have i31 : i < 2 ^ 31 := by omega
  refine ct_go (by decide +kernel) (Nat.le_of_ble_eq_true rfl) (L := [(0, .ref m), (1, .int (nI i)), (2, .int w)]) rfl ?_
  refine xw_aload_n dX10_result_0 rfl rfl ?_
  refine xw_iload_n dX10_result_1 rfl rfl ?_
  refine xw_if_lt (tgt := 22) dX10_result_2 (by decide) (fun zz => absurd zz (nI_pos (by omega))) (fun _ => ?_)
  refine xw_iload_n dX10_result_5 rfl rfl ?_
  refine xw_aload_n dX10_result_6 rfl rfl ?_
  refine xw_get (ci := 11) (k := 32) (v := .int (ρ0.1 32)) dX10_result_7 hR0.1 rfl inX10 (by decide) tw_823 (Or.inl rfl) rfl ?_
  rw [hAb0.2.2.2.2.2.1.1]
  refine xw_icmp_ge (tgt := 22) dX10_result_10 (by decide) (fun zz => absurd zz (nI_ge hi (by omega))) (fun _ => ?_)
  refine xw_iload_n dX10_result_13 rfl rfl ?_
  refine xw_if_lt (tgt := 22) dX10_result_14 (by decide) (fun zz => absurd zz hw.1) (fun _ => ?_)
  refine xw_iload_n dX10_result_17 rfl rfl ?_
  refine xw_iconst (v := 2) dX10_result_18 (by decide) ?_
  refine xw_icmp_le (tgt := 26) dX10_result_19 (by decide) (fun _ => ?_) (fun zz => absurd hw.2 zz)
  refine xw_iconst (v := 0) dX10_result_26 (by decide) ?_
  refine xw_put (ci := 11) (k := 0) tyX10 dX10_result_27 hR0.1 rfl inX10 tyX10_ok nmX10 (by decide) tw_791 (Or.inl rfl) rfl rfl rfl rfl (Nat.le_of_ble_eq_true rfl) ?_
  dsimp only [flM, List.set]
  have hR1 : RW (oput M 11 m (some [.int (0), .int (ρ0.1 1), .ref (B 2), .ref (B 3), .ref (B 4), .ref (B 5), .ref (B 6), .ref (B 7), .int (ρ0.1 8), .int (ρ0.1 9), .ref (B 10), .ref (B 11), .ref (B 12), .int (ρ0.1 13), .ref (B 14), .ref (B 15), .ref (B 16), .int (ρ0.1 17), .ref (B 18), .ref (B 19), .ref (B 20), .ref (B 21), .ref (B 22), .int (ρ0.1 23), .ref (B 24), .ref (B 25), .ref (B 26), .ref (B 27), .int (ρ0.1 28), .ref (B 29), .ref (B 30), .ref (B 31), .int (ρ0.1 32), .ref (B 33), .ref (B 34), .ref (B 35), .int (ρ0.1 36), .int (ρ0.1 37), .int (ρ0.1 38), .ref (B 39), .ref (B 40)])) m B (rS ρ0 0 0) := hR0.sset (k := 0) (v := 0)
  have hE1 : EF M (oput M 11 m (some [.int (0), .int (ρ0.1 1), .ref (B 2), .ref (B 3), .ref (B 4), .ref (B 5), .ref (B 6), .ref (B 7), .int (ρ0.1 8), .int (ρ0.1 9), .ref (B 10), .ref (B 11), .ref (B 12), .int (ρ0.1 13), .ref (B 14), .ref (B 15), .ref (B 16), .int (ρ0.1 17), .ref (B 18), .ref (B 19), .ref (B 20), .ref (B 21), .ref (B 22), .int (ρ0.1 23), .ref (B 24), .ref (B 25), .ref (B 26), .ref (B 27), .int (ρ0.1 28), .ref (B 29), .ref (B 30), .ref (B 31), .int (ρ0.1 32), .ref (B 33), .ref (B 34), .ref (B 35), .int (ρ0.1 36), .int (ρ0.1 37), .int (ρ0.1 38), .ref (B 39), .ref (B 40)])) m B := (EF.rf M m B).tr EF.o
  generalize oput M 11 m (some [.int (0), .int (ρ0.1 1), .ref (B 2), .ref (B 3), .ref (B 4), .ref (B 5), .ref (B 6), .ref (B 7), .int (ρ0.1 8), .int (ρ0.1 9), .ref (B 10), .ref (B 11), .ref (B 12), .int (ρ0.1 13), .ref (B 14), .ref (B 15), .ref (B 16), .int (ρ0.1 17), .ref (B 18), .ref (B 19), .ref (B 20), .ref (B 21), .ref (B 22), .int (ρ0.1 23), .ref (B 24), .ref (B 25), .ref (B 26), .ref (B 27), .int (ρ0.1 28), .ref (B 29), .ref (B 30), .ref (B 31), .int (ρ0.1 32), .ref (B 33), .ref (B 34), .ref (B 35), .int (ρ0.1 36), .int (ρ0.1 37), .int (ρ0.1 38), .ref (B 39), .ref (B 40)]) = M1 at hR1 hE1 ⊢
  have hRM : RM M1 m B σ 0 K V := RM.th' hR0 h00.2 hAb0 hT0 hW0 hR1
  obtain ⟨ρ, T, hR, h0, hAb, hT, hW⟩ := id hRM
  obtain ⟨x, hx⟩ : ∃ x, (sRs σ)[i]? = some x := ⟨_, List.getElem?_eq_getElem hi⟩
  obtain ⟨b1, b2, b3⟩ := hAb.2.2.2.2.2.1.2 i x hx
  have hxg : ((sRs σ)[i]?).getD ((0, 0), 0) = x := by rw [hx]; rfl
  refine xw_aload_n dX10_result_30 rfl rfl ?_
  refine xw_get (ci := 11) (k := 0) (v := .int (ρ.1 0)) dX10_result_31 hR.1 rfl inX10 (by decide) tw_791 (Or.inl rfl) rfl ?_
  rw [h0.1]
  refine xw_if_le (tgt := 39) dX10_result_34 (by decide) (fun _ => ?_) (fun zz => absurd (by decide) zz)
  refine xw_iload_n dX10_result_39 rfl rfl ?_
  refine xw_if_ne (tgt := 53) dX10_result_40 (by decide) (fun v0 => ?_) (fun v0 => ?_)
  · skip
    refine xw_iload_n dX10_result_53 rfl rfl ?_
    refine xw_iconst (v := 1) dX10_result_54 (by decide) ?_
    refine xw_pc (pc2 := 55) rfl ?_
    refine xw_icmp_ne (tgt := 67) dX10_result_55 (by decide) (fun v1 => ?_) (fun v1 => ?_)
    · skip
      refine xw_aload_n dX10_result_67 rfl rfl ?_
      refine xw_get (ci := 11) (k := 35) (v := .ref (B 35)) dX10_result_68 hR.1 rfl inX10 (by decide) tw_826 (Or.inl rfl) rfl ?_
      refine xw_iload_n dX10_result_71 rfl rfl ?_
      refine xw_iald dX10_result_72 (hR.2.1 35 rfl) ini ?_
      rw [nI_clamp i31]
      rw [b3]
      refine xw_i2l dX10_result_73 ?_
      exact xw_lret rfl dX10_result_74 ⟨by unfold resu; rw [if_neg v0, if_neg v1, hxg], hRM, hE1⟩
    · skip
      refine xw_aload_n dX10_result_58 rfl rfl ?_
      refine xw_get (ci := 11) (k := 34) (v := .ref (B 34)) dX10_result_59 hR.1 rfl inX10 (by decide) tw_825 (Or.inl rfl) rfl ?_
      refine xw_iload_n dX10_result_62 rfl rfl ?_
      refine xw_lald dX10_result_63 (hR.2.2.1 34 rfl) ini ?_
      rw [nI_clamp i31]
      rw [b2]
      refine xw_goto (tgt := 74) dX10_result_64 (by decide) ?_
      exact xw_lret rfl dX10_result_74 ⟨by unfold resu; rw [if_neg v0, if_pos v1, hxg], hRM, hE1⟩
  · skip
    refine xw_aload_n dX10_result_43 rfl rfl ?_
    refine xw_get (ci := 11) (k := 33) (v := .ref (B 33)) dX10_result_44 hR.1 rfl inX10 (by decide) tw_824 (Or.inl rfl) rfl ?_
    refine xw_iload_n dX10_result_47 rfl rfl ?_
    refine xw_iald dX10_result_48 (hR.2.1 33 rfl) ini ?_
    rw [nI_clamp i31]
    rw [b1]
    refine xw_i2l dX10_result_49 ?_
    refine xw_goto (tgt := 74) dX10_result_50 (by decide) ?_
    refine xw_pc (pc2 := 74) rfl ?_
    exact xw_lret rfl dX10_result_74 ⟨by unfold resu; rw [if_pos v0, hxg], hRM, hE1⟩
theorem ct_mcontextN {a w : Int32} (h : RM M m B σ th K V) (hn : ¬ askC (sC σ).length a w) : CT G 0 0 mX10_context [.ref m, .int a, .int w] M (fun r M1 => r = some (.int 0) ∧ RM M1 m B σ 1 K V ∧ EF M M1 m B) := by
  obtain ⟨ρ, T, hR, h0, hAb, hT, hW⟩ := id h
  have out : XW G 0 0 mX10_context [.ref m, .int a, .int w] M (fun r M1 => r = some (.int 0) ∧ RM M1 m B σ 1 K V ∧ EF M M1 m B) M 22 [(0, .ref m), (1, .int a), (2, .int w)] [.ref m] := by
    refine xw_iconst (v := 1) dX10_context_22 (by decide) ?_
    refine xw_goto (tgt := 27) dX10_context_23 (by decide) ?_
    refine xw_put (ci := 11) (k := 0) tyX10 dX10_context_27 hR.1 rfl inX10 tyX10_ok nmX10 (by decide) tw_791 (Or.inl rfl) rfl rfl rfl rfl (Nat.le_of_ble_eq_true rfl) ?_
    dsimp only [flM, List.set]
    have hR1 : RW (oput M 11 m (some [.int (1), .int (ρ.1 1), .ref (B 2), .ref (B 3), .ref (B 4), .ref (B 5), .ref (B 6), .ref (B 7), .int (ρ.1 8), .int (ρ.1 9), .ref (B 10), .ref (B 11), .ref (B 12), .int (ρ.1 13), .ref (B 14), .ref (B 15), .ref (B 16), .int (ρ.1 17), .ref (B 18), .ref (B 19), .ref (B 20), .ref (B 21), .ref (B 22), .int (ρ.1 23), .ref (B 24), .ref (B 25), .ref (B 26), .ref (B 27), .int (ρ.1 28), .ref (B 29), .ref (B 30), .ref (B 31), .int (ρ.1 32), .ref (B 33), .ref (B 34), .ref (B 35), .int (ρ.1 36), .int (ρ.1 37), .int (ρ.1 38), .ref (B 39), .ref (B 40)])) m B (rS ρ 0 1) := hR.sset (k := 0) (v := 1)
    have hE1 : EF M (oput M 11 m (some [.int (1), .int (ρ.1 1), .ref (B 2), .ref (B 3), .ref (B 4), .ref (B 5), .ref (B 6), .ref (B 7), .int (ρ.1 8), .int (ρ.1 9), .ref (B 10), .ref (B 11), .ref (B 12), .int (ρ.1 13), .ref (B 14), .ref (B 15), .ref (B 16), .int (ρ.1 17), .ref (B 18), .ref (B 19), .ref (B 20), .ref (B 21), .ref (B 22), .int (ρ.1 23), .ref (B 24), .ref (B 25), .ref (B 26), .ref (B 27), .int (ρ.1 28), .ref (B 29), .ref (B 30), .ref (B 31), .int (ρ.1 32), .ref (B 33), .ref (B 34), .ref (B 35), .int (ρ.1 36), .int (ρ.1 37), .int (ρ.1 38), .ref (B 39), .ref (B 40)])) m B := (EF.rf M m B).tr EF.o
    generalize oput M 11 m (some [.int (1), .int (ρ.1 1), .ref (B 2), .ref (B 3), .ref (B 4), .ref (B 5), .ref (B 6), .ref (B 7), .int (ρ.1 8), .int (ρ.1 9), .ref (B 10), .ref (B 11), .ref (B 12), .int (ρ.1 13), .ref (B 14), .ref (B 15), .ref (B 16), .int (ρ.1 17), .ref (B 18), .ref (B 19), .ref (B 20), .ref (B 21), .ref (B 22), .int (ρ.1 23), .ref (B 24), .ref (B 25), .ref (B 26), .ref (B 27), .int (ρ.1 28), .ref (B 29), .ref (B 30), .ref (B 31), .int (ρ.1 32), .ref (B 33), .ref (B 34), .ref (B 35), .int (ρ.1 36), .int (ρ.1 37), .int (ρ.1 38), .ref (B 39), .ref (B 40)]) = M1 at hR1 hE1 ⊢
    refine xw_aload_n dX10_context_30 rfl rfl ?_
    refine xw_get (ci := 11) (k := 0) (v := .int ((rS ρ 0 1).1 0)) dX10_context_31 hR1.1 rfl inX10 (by decide) tw_791 (Or.inl rfl) rfl ?_
    refine xw_if_le (tgt := 39) dX10_context_34 (by decide) (fun zz => absurd zz (show ¬ (rS ρ 0 1).1 0 ≤ 0 by rw [rS_1, if_pos rfl]; decide)) (fun _ => ?_)
    refine xw_iconst (v := 0) dX10_context_37 (by decide) ?_
    exact xw_iret rfl dX10_context_38 ⟨rfl, RM.th' hR h0.2 hAb hT hW hR1, hE1⟩
  refine ct_go (by decide +kernel) (Nat.le_of_ble_eq_true rfl) (L := [(0, .ref m), (1, .int a), (2, .int w)]) rfl ?_
  refine xw_aload_n dX10_context_0 rfl rfl ?_
  refine xw_iload_n dX10_context_1 rfl rfl ?_
  refine xw_if_lt (tgt := 22) dX10_context_2 (by decide) (fun d1 => ?_) (fun d1 => ?_)
  · exact xw_pc rfl out
  · skip
    refine xw_iload_n dX10_context_5 rfl rfl ?_
    refine xw_aload_n dX10_context_6 rfl rfl ?_
    refine xw_get (ci := 11) (k := 9) (v := .int (ρ.1 9)) dX10_context_7 hR.1 rfl inX10 (by decide) tw_800 (Or.inl rfl) rfl ?_
    rw [hAb.2.1.1]
    refine xw_icmp_ge (tgt := 22) dX10_context_10 (by decide) (fun d2 => ?_) (fun d2 => ?_)
    · exact xw_pc rfl out
    · skip
      refine xw_iload_n dX10_context_13 rfl rfl ?_
      refine xw_if_lt (tgt := 22) dX10_context_14 (by decide) (fun d3 => ?_) (fun d3 => ?_)
      · exact xw_pc rfl out
      · skip
        refine xw_iload_n dX10_context_17 rfl rfl ?_
        refine xw_iconst (v := 2) dX10_context_18 (by decide) ?_
        refine xw_pc (pc2 := 19) rfl ?_
        refine xw_icmp_le (tgt := 26) dX10_context_19 (by decide) (fun zz => absurd zz (show ¬ w ≤ 2 from fun zz => hn ⟨⟨d1, Int32.not_le.mp d2⟩, d3, zz⟩)) (fun _ => ?_)
        exact xw_pc rfl out
theorem ct_mcontext {w : Int32} (h : RM M m B σ th K V) (hi : i < (sC σ).length) (hb : (sC σ).length ≤ 151) (hw : ¬ w < 0 ∧ w ≤ 2) : CT G 0 0 mX10_context [.ref m, .int (nI i), .int w] M (fun r M1 => r = some (.int (ctxt σ i w)) ∧ RM M1 m B σ 0 K V ∧ EF M M1 m B) := by
  obtain ⟨ρ0, T0, hR0, h00, hAb0, hT0, hW0⟩ := id h
  have ini : vp_in (nI i) 151 := vp_in_nI (by omega) (by decide)
  have i31 : i < 2 ^ 31 := by omega
  refine ct_go (by decide +kernel) (Nat.le_of_ble_eq_true rfl) (L := [(0, .ref m), (1, .int (nI i)), (2, .int w)]) rfl ?_
  refine xw_aload_n dX10_context_0 rfl rfl ?_
  refine xw_iload_n dX10_context_1 rfl rfl ?_
  refine xw_if_lt (tgt := 22) dX10_context_2 (by decide) (fun zz => absurd zz (nI_pos (by omega))) (fun _ => ?_)
  refine xw_iload_n dX10_context_5 rfl rfl ?_
  refine xw_aload_n dX10_context_6 rfl rfl ?_
  refine xw_get (ci := 11) (k := 9) (v := .int (ρ0.1 9)) dX10_context_7 hR0.1 rfl inX10 (by decide) tw_800 (Or.inl rfl) rfl ?_
  rw [hAb0.2.1.1]
  refine xw_icmp_ge (tgt := 22) dX10_context_10 (by decide) (fun zz => absurd zz (nI_ge hi (by omega))) (fun _ => ?_)
  refine xw_iload_n dX10_context_13 rfl rfl ?_
  refine xw_if_lt (tgt := 22) dX10_context_14 (by decide) (fun zz => absurd zz hw.1) (fun _ => ?_)
  refine xw_iload_n dX10_context_17 rfl rfl ?_
  refine xw_iconst (v := 2) dX10_context_18 (by decide) ?_
  refine xw_icmp_le (tgt := 26) dX10_context_19 (by decide) (fun _ => ?_) (fun zz => absurd hw.2 zz)
  refine xw_iconst (v := 0) dX10_context_26 (by decide) ?_
  refine xw_put (ci := 11) (k := 0) tyX10 dX10_context_27 hR0.1 rfl inX10 tyX10_ok nmX10 (by decide) tw_791 (Or.inl rfl) rfl rfl rfl rfl (Nat.le_of_ble_eq_true rfl) ?_
  dsimp only [flM, List.set]
  have hR1 : RW (oput M 11 m (some [.int (0), .int (ρ0.1 1), .ref (B 2), .ref (B 3), .ref (B 4), .ref (B 5), .ref (B 6), .ref (B 7), .int (ρ0.1 8), .int (ρ0.1 9), .ref (B 10), .ref (B 11), .ref (B 12), .int (ρ0.1 13), .ref (B 14), .ref (B 15), .ref (B 16), .int (ρ0.1 17), .ref (B 18), .ref (B 19), .ref (B 20), .ref (B 21), .ref (B 22), .int (ρ0.1 23), .ref (B 24), .ref (B 25), .ref (B 26), .ref (B 27), .int (ρ0.1 28), .ref (B 29), .ref (B 30), .ref (B 31), .int (ρ0.1 32), .ref (B 33), .ref (B 34), .ref (B 35), .int (ρ0.1 36), .int (ρ0.1 37), .int (ρ0.1 38), .ref (B 39), .ref (B 40)])) m B (rS ρ0 0 0) := hR0.sset (k := 0) (v := 0)
  have hE1 : EF M (oput M 11 m (some [.int (0), .int (ρ0.1 1), .ref (B 2), .ref (B 3), .ref (B 4), .ref (B 5), .ref (B 6), .ref (B 7), .int (ρ0.1 8), .int (ρ0.1 9), .ref (B 10), .ref (B 11), .ref (B 12), .int (ρ0.1 13), .ref (B 14), .ref (B 15), .ref (B 16), .int (ρ0.1 17), .ref (B 18), .ref (B 19), .ref (B 20), .ref (B 21), .ref (B 22), .int (ρ0.1 23), .ref (B 24), .ref (B 25), .ref (B 26), .ref (B 27), .int (ρ0.1 28), .ref (B 29), .ref (B 30), .ref (B 31), .int (ρ0.1 32), .ref (B 33), .ref (B 34), .ref (B 35), .int (ρ0.1 36), .int (ρ0.1 37), .int (ρ0.1 38), .ref (B 39), .ref (B 40)])) m B := (EF.rf M m B).tr EF.o
  generalize oput M 11 m (some [.int (0), .int (ρ0.1 1), .ref (B 2), .ref (B 3), .ref (B 4), .ref (B 5), .ref (B 6), .ref (B 7), .int (ρ0.1 8), .int (ρ0.1 9), .ref (B 10), .ref (B 11), .ref (B 12), .int (ρ0.1 13), .ref (B 14), .ref (B 15), .ref (B 16), .int (ρ0.1 17), .ref (B 18), .ref (B 19), .ref (B 20), .ref (B 21), .ref (B 22), .int (ρ0.1 23), .ref (B 24), .ref (B 25), .ref (B 26), .ref (B 27), .int (ρ0.1 28), .ref (B 29), .ref (B 30), .ref (B 31), .int (ρ0.1 32), .ref (B 33), .ref (B 34), .ref (B 35), .int (ρ0.1 36), .int (ρ0.1 37), .int (ρ0.1 38), .ref (B 39), .ref (B 40)]) = M1 at hR1 hE1 ⊢
  have hRM : RM M1 m B σ 0 K V := RM.th' hR0 h00.2 hAb0 hT0 hW0 hR1
  obtain ⟨ρ, T, hR, h0, hAb, hT, hW⟩ := id hRM
  obtain ⟨b1, b2, b3⟩ := hAb.2.1.2 i _ (ct3_at hi)
  refine xw_aload_n dX10_context_30 rfl rfl ?_
  refine xw_get (ci := 11) (k := 0) (v := .int (ρ.1 0)) dX10_context_31 hR.1 rfl inX10 (by decide) tw_791 (Or.inl rfl) rfl ?_
  rw [h0.1]
  refine xw_if_le (tgt := 39) dX10_context_34 (by decide) (fun _ => ?_) (fun zz => absurd (by decide) zz)
  refine xw_iload_n dX10_context_39 rfl rfl ?_
  refine xw_if_ne (tgt := 52) dX10_context_40 (by decide) (fun v0 => ?_) (fun v0 => ?_)
  · skip
    refine xw_iload_n dX10_context_52 rfl rfl ?_
    refine xw_iconst (v := 1) dX10_context_53 (by decide) ?_
    refine xw_pc (pc2 := 54) rfl ?_
    refine xw_icmp_ne (tgt := 66) dX10_context_54 (by decide) (fun v1 => ?_) (fun v1 => ?_)
    · skip
      refine xw_aload_n dX10_context_66 rfl rfl ?_
      refine xw_get (ci := 11) (k := 12) (v := .ref (B 12)) dX10_context_67 hR.1 rfl inX10 (by decide) tw_803 (Or.inl rfl) rfl ?_
      refine xw_iload_n dX10_context_70 rfl rfl ?_
      refine xw_iald dX10_context_71 (hR.2.1 12 rfl) ini ?_
      rw [nI_clamp i31]
      rw [b3]
      exact xw_iret rfl dX10_context_72 ⟨by unfold ctxt; rw [if_neg v0, if_neg v1], hRM, hE1⟩
    · skip
      refine xw_aload_n dX10_context_57 rfl rfl ?_
      refine xw_get (ci := 11) (k := 11) (v := .ref (B 11)) dX10_context_58 hR.1 rfl inX10 (by decide) tw_802 (Or.inl rfl) rfl ?_
      refine xw_iload_n dX10_context_61 rfl rfl ?_
      refine xw_iald dX10_context_62 (hR.2.1 11 rfl) ini ?_
      rw [nI_clamp i31]
      rw [b2]
      refine xw_goto (tgt := 72) dX10_context_63 (by decide) ?_
      exact xw_iret rfl dX10_context_72 ⟨by unfold ctxt; rw [if_neg v0, if_pos v1], hRM, hE1⟩
  · skip
    refine xw_aload_n dX10_context_43 rfl rfl ?_
    refine xw_get (ci := 11) (k := 10) (v := .ref (B 10)) dX10_context_44 hR.1 rfl inX10 (by decide) tw_801 (Or.inl rfl) rfl ?_
    refine xw_iload_n dX10_context_47 rfl rfl ?_
    refine xw_iald dX10_context_48 (hR.2.1 10 rfl) ini ?_
    rw [nI_clamp i31]
    rw [b1]
    refine xw_goto (tgt := 72) dX10_context_49 (by decide) ?_
    exact xw_iret rfl dX10_context_72 ⟨by unfold ctxt; rw [if_pos v0], hRM, hE1⟩
end MQ
