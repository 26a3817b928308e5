/-! THE REFERENCE: waiting -/
section MWAIT
variable {G : hx_G} {M M1 : hx_S} {m : Nat} {B : Nat → Nat} {ρ ρ' : hr_S} {σ σ' : hs_S} {T : List TK} {i c s na d o : Nat} {x y z : V2} {th : Int32} {K : Nat → Int32} {V : Nat → Int64}
def atF (i c : Nat) : TK → Bool := fun x => decide (x.1.1 = i ∧ x.1.2.1 = c)
theorem WT.cnt (hW : WT σ T) (hG : GS σ) (i c : Nat) : (T.filter (atF i c)).length = cnt (sT σ i c) := by
  have hB := hW.tb hG
  have key : ∀ q, q ∈ (T.filter (atF i c)).map (fun y => y.1) ↔ q ∈ places (sT σ i c) i c := by
    intro q
    rw [places_in]
    constructor
    · intro h
      obtain ⟨⟨k, w⟩, h1, h2⟩ := List.mem_map.mp h
      obtain ⟨h3, h4⟩ := List.mem_filter.mp h1
      obtain ⟨e1, e2⟩ : k.1 = i ∧ k.2.1 = c := of_decide_eq_true h4
      obtain rfl : k = q := h2
      have h5 := (hW.2 k.1 k.2.1 k.2.2 w).mp h3
      rw [e1, e2] at h5
      exact ⟨e1, e2, (hB.2 _ h3).2.2, by rw [h5]; rfl⟩
    · rintro ⟨e1, e2, -, e4⟩
      cases e : sT σ i c q.2.2 with
      | none => rw [e] at e4; cases e4
      | some w =>
        refine List.mem_map.mpr ⟨(q, w), List.mem_filter.mpr ⟨?_, decide_eq_true ⟨e1, e2⟩⟩, rfl⟩
        have := (hW.2 i c q.2.2 w).mpr e
        rw [← e1, ← e2] at this
        exact this
  have a1 := sub_len2 _ _ (nd_filter (atF i c) hW.1) (fun x hx => (key x).mp hx)
  have a2 := sub_len2 _ _ (places_nd (sT σ i c) i c) (fun x hx => (key x).mpr hx)
  rw [List.length_map, places_len] at a1
  rw [List.length_map, places_len] at a2
  omega
theorem ct_mwaiting {k c : Int32} (h : RM M m B σ th K V) (hG : GS σ) : CT G 1 21 mX10_waiting [.ref m, .int k, .int c] M (fun r M1 => r = some (.int (waitg σ k c)) ∧ RM M1 m B σ 0 K V ∧ EF M M1 m B) := by
  obtain ⟨ρ0, T0, hR0, h00, hAb0, hT0, hW0⟩ := id h
  have h40 := hG.1
  have h151 := hG.2.2.1.2.1
  refine ct_go (by decide +kernel) (Nat.le_of_ble_eq_true rfl) (L := [(0, .ref m), (1, .int k), (2, .int c)]) rfl ?_
  refine xw_aload_n dX10_waiting_0 rfl rfl ?_
  refine xw_iconst (v := 0) dX10_waiting_1 (by decide) ?_
  refine xw_put (ci := 11) (k := 0) tyX10 dX10_waiting_2 hR0.1 rfl inX10 tyX10_ok nmX10 (by decide) tw_791 (Or.inl rfl) rfl rfl rfl rfl (Nat.le_of_ble_eq_true rfl) ?_
  dsimp only [flM, List.set]
  have hR1 : RW (oput M 11 m (some [.int (0), .int (ρ0.1 1), .ref (B 2), .ref (B 3), .ref (B 4), .ref (B 5), .ref (B 6), .ref (B 7), .int (ρ0.1 8), .int (ρ0.1 9), .ref (B 10), .ref (B 11), .ref (B 12), .int (ρ0.1 13), .ref (B 14), .ref (B 15), .ref (B 16), .int (ρ0.1 17), .ref (B 18), .ref (B 19), .ref (B 20), .ref (B 21), .ref (B 22), .int (ρ0.1 23), .ref (B 24), .ref (B 25), .ref (B 26), .ref (B 27), .int (ρ0.1 28), .ref (B 29), .ref (B 30), .ref (B 31), .int (ρ0.1 32), .ref (B 33), .ref (B 34), .ref (B 35), .int (ρ0.1 36), .int (ρ0.1 37), .int (ρ0.1 38), .ref (B 39), .ref (B 40)])) m B (rS ρ0 0 0) := hR0.sset (k := 0) (v := 0)
  have hE1 : EF M (oput M 11 m (some [.int (0), .int (ρ0.1 1), .ref (B 2), .ref (B 3), .ref (B 4), .ref (B 5), .ref (B 6), .ref (B 7), .int (ρ0.1 8), .int (ρ0.1 9), .ref (B 10), .ref (B 11), .ref (B 12), .int (ρ0.1 13), .ref (B 14), .ref (B 15), .ref (B 16), .int (ρ0.1 17), .ref (B 18), .ref (B 19), .ref (B 20), .ref (B 21), .ref (B 22), .int (ρ0.1 23), .ref (B 24), .ref (B 25), .ref (B 26), .ref (B 27), .int (ρ0.1 28), .ref (B 29), .ref (B 30), .ref (B 31), .int (ρ0.1 32), .ref (B 33), .ref (B 34), .ref (B 35), .int (ρ0.1 36), .int (ρ0.1 37), .int (ρ0.1 38), .ref (B 39), .ref (B 40)])) m B := (EF.rf M m B).tr EF.o
  generalize oput M 11 m (some [.int (0), .int (ρ0.1 1), .ref (B 2), .ref (B 3), .ref (B 4), .ref (B 5), .ref (B 6), .ref (B 7), .int (ρ0.1 8), .int (ρ0.1 9), .ref (B 10), .ref (B 11), .ref (B 12), .int (ρ0.1 13), .ref (B 14), .ref (B 15), .ref (B 16), .int (ρ0.1 17), .ref (B 18), .ref (B 19), .ref (B 20), .ref (B 21), .ref (B 22), .int (ρ0.1 23), .ref (B 24), .ref (B 25), .ref (B 26), .ref (B 27), .int (ρ0.1 28), .ref (B 29), .ref (B 30), .ref (B 31), .int (ρ0.1 32), .ref (B 33), .ref (B 34), .ref (B 35), .int (ρ0.1 36), .int (ρ0.1 37), .int (ρ0.1 38), .ref (B 39), .ref (B 40)]) = M1 at hR1 hE1 ⊢
  have hRM : RM M1 m B σ 0 K V := RM.th' hR0 h00.2 hAb0 hT0 hW0 hR1
  obtain ⟨ρ, T, hR, h0, hAb, hT, hW⟩ := id hRM
  generalize hMM : M1 = M2 at hRM hE1 hR ⊢
  clear hMM hR1
  have hTB := hW.tb hG
  have h301 := hTB.1
  refine xw_aload_n dX10_waiting_5 rfl rfl ?_
  refine xw_iload_n dX10_waiting_6 rfl rfl ?_
  refine xw_callV (q2 := mX10_isNode) (n2 := 1) (ci := 11) (Bs := [.int k]) (rest := []) (ct_misNode hR hAb.1.1) dX10_waiting_7 rfl (o_at hR.1) rfl rfl tw_932 tw_934 tw_19 tw_47 tw_935 (by decide +kernel) rfl (Nat.le_of_ble_eq_true rfl) (Nat.le_of_ble_eq_true rfl) (Nat.le_of_ble_eq_true rfl) (fun rr M1 hr hle1 => ?_)
  obtain ⟨rfl, hM1⟩ := hr
  obtain rfl := hM1.symm
  by_cases hin : inN σ k
  · obtain ⟨i, hi, hki, -⟩ := pk_mu hin.1 (show ¬ nI (sN σ).length ≤ k from fun z => absurd hin.2 (by rw [Int32.not_lt]; exact z)) (show (sN σ).length < 2 ^ 31 by omega)
    rw [if_pos hin]
    refine xw_if_eq (tgt := 25) dX10_waiting_10 (by decide) (fun zz => absurd zz (by decide)) (fun _ => ?_)
    refine xw_iload_n dX10_waiting_13 rfl rfl ?_
    refine xw_if_lt (tgt := 25) dX10_waiting_14 (by decide) (fun d1 => ?_) (fun d1 => ?_)
    · skip
      refine xw_iconst (v := (-1)) dX10_waiting_25 (by decide) ?_
      exact xw_iret rfl dX10_waiting_26 ⟨by unfold waitg; rw [if_neg (fun z => z.2.1 d1)], hRM, hE1⟩
    · skip
      refine xw_iload_n dX10_waiting_17 rfl rfl ?_
      refine xw_aload_n dX10_waiting_18 rfl rfl ?_
      refine xw_get (ci := 11) (k := 9) (v := .int (ρ.1 9)) dX10_waiting_19 hR.1 rfl inX10 (by decide) tw_800 (Or.inl rfl) rfl ?_
      rw [hAb.2.1.1]
      refine xw_icmp_lt (tgt := 27) dX10_waiting_22 (by decide) (fun d2 => ?_) (fun d2 => ?_)
      · obtain ⟨cc, hcc, hce, -⟩ := pk_mu d1 (show ¬ nI (sC σ).length ≤ c from fun z => absurd d2 (by rw [Int32.not_lt]; exact z)) (show (sC σ).length < 2 ^ 31 by omega)
        have hres : waitg σ k c = nI (T.filter (atF i cc)).length := by
          unfold waitg
          rw [if_pos ⟨hin, d1, fun z => absurd d2 (by rw [Int32.not_lt]; exact z)⟩, hW.cnt hG, hki, hce, nI_clamp (by omega), nI_clamp (by omega)]
        rw [hres]
        have loop : ∀ (n j : Nat), j + n = T.length → XW G 1 21 mX10_waiting [.ref m, .int k, .int c] M (fun r M1 => r = some (.int (nI (T.filter (atF i cc)).length)) ∧ RM M1 m B σ 0 K V ∧ EF M M1 m B) M2 32 [(4, .int (nI j)), (3, .int (nI ((T.take j).filter (atF i cc)).length)), (0, .ref m), (1, .int (nI i)), (2, .int (nI cc))] [] := by
          intro n
          induction n with
          | zero =>
            intro j hj
            obtain rfl : j = T.length := by omega
            rw [List.take_length]
            refine xw_iload dX10_waiting_32 rfl ?_
            refine xw_aload_n dX10_waiting_34 rfl rfl ?_
            refine xw_get (ci := 11) (k := 17) (v := .int (ρ.1 17)) dX10_waiting_35 hR.1 rfl inX10 (by decide) tw_808 (Or.inl rfl) rfl ?_
            rw [hT.1]
            refine xw_icmp_ge (tgt := 77) dX10_waiting_38 (by decide) (fun _ => ?_) (fun zz => absurd (nI_le (Nat.le_refl _) (by omega)) zz)
            refine xw_iload_n dX10_waiting_77 rfl rfl ?_
            refine xw_pc (pc2 := 78) rfl ?_
            exact xw_iret rfl dX10_waiting_78 ⟨rfl, hRM, hE1⟩
          | succ n ih =>
            intro j hj
            have hjl : j < T.length := by omega
            obtain ⟨e, he⟩ : ∃ e, T[j]? = some e := ⟨_, List.getElem?_eq_getElem hjl⟩
            obtain ⟨a1, a2, a3, -⟩ := hT.2 j e he
            obtain ⟨b1, b2, b3⟩ := hTB.2 e (List.mem_of_getElem? he)
            have inj : vp_in (nI j) 302 := vp_in_nI (by omega) (by decide)
            have j31 : j < 2 ^ 31 := by omega
            have hcs := count_s (atF i cc) T he
            have ihj := ih (j + 1) (by omega)
            generalize ((T.take j).filter (atF i cc)).length = q at hcs ⊢
            have nope : ¬ (e.1.1 = i ∧ e.1.2.1 = cc) → XW G 1 21 mX10_waiting [.ref m, .int k, .int c] M (fun r M1 => r = some (.int (nI (T.filter (atF i cc)).length)) ∧ RM M1 m B σ 0 K V ∧ EF M M1 m B) M2 68 [(4, .int (nI j)), (3, .int (nI q)), (0, .ref m), (1, .int (nI i)), (2, .int (nI cc))] [.int (nI q)] := by
              intro hne
              rw [hcs, if_neg (show ¬ atF i cc e = true from fun zz => hne (of_decide_eq_true zz))] at ihj
              refine xw_iconst (v := 0) dX10_waiting_68 (by decide) ?_
              refine xw_iadd dX10_waiting_69 ?_
              refine xw_istore_n (L2 := [(3, .int ((nI q) + 0)), (4, .int (nI j)), (0, .ref m), (1, .int (nI i)), (2, .int (nI cc))]) dX10_waiting_70 rfl (by decide) rfl ?_
              refine xw_iinc (v := (nI j) + 1) (L2 := [(4, .int ((nI j) + 1)), (3, .int ((nI q) + 0)), (0, .ref m), (1, .int (nI i)), (2, .int (nI cc))]) dX10_waiting_71 rfl rfl (by decide) rfl ?_
              refine xw_goto (tgt := 32) dX10_waiting_74 (by decide) ?_
              rw [nI_1, show nI q + 0 = nI (q + 0) by rw [show (0 : Int32) = nI 0 from rfl, nI_add]]
              refine xw_mem (L2 := [(4, .int (nI (j + 1))), (3, .int (nI (q + 0))), (0, .ref m), (1, .int (nI i)), (2, .int (nI cc))]) (by simp) ?_
              exact ihj
            refine xw_iload dX10_waiting_32 rfl ?_
            refine xw_aload_n dX10_waiting_34 rfl rfl ?_
            refine xw_get (ci := 11) (k := 17) (v := .int (ρ.1 17)) dX10_waiting_35 hR.1 rfl inX10 (by decide) tw_808 (Or.inl rfl) rfl ?_
            rw [hT.1]
            refine xw_icmp_ge (tgt := 77) dX10_waiting_38 (by decide) (fun zz => absurd zz (nI_ge hjl (by omega))) (fun _ => ?_)
            refine xw_iload_n dX10_waiting_41 rfl rfl ?_
            refine xw_aload_n dX10_waiting_42 rfl rfl ?_
            refine xw_get (ci := 11) (k := 18) (v := .ref (B 18)) dX10_waiting_43 hR.1 rfl inX10 (by decide) tw_809 (Or.inl rfl) rfl ?_
            refine xw_iload dX10_waiting_46 rfl ?_
            refine xw_iald dX10_waiting_48 (hR.2.1 18 rfl) inj ?_
            rw [nI_clamp j31]
            rw [a1]
            refine xw_iload_n dX10_waiting_49 rfl rfl ?_
            refine xw_pc (pc2 := 50) rfl ?_
            refine xw_icmp_ne (tgt := 68) dX10_waiting_50 (by decide) (fun v0 => ?_) (fun v0 => ?_)
            · exact xw_pc rfl (nope (fun zz => v0 (by rw [zz.1])))
            · have e1 : e.1.1 = i := (nI_eq (by omega) (by omega)).mp v0
              refine xw_aload_n dX10_waiting_53 rfl rfl ?_
              refine xw_get (ci := 11) (k := 20) (v := .ref (B 20)) dX10_waiting_54 hR.1 rfl inX10 (by decide) tw_811 (Or.inl rfl) rfl ?_
              refine xw_iload dX10_waiting_57 rfl ?_
              refine xw_iald dX10_waiting_59 (hR.2.1 20 rfl) inj ?_
              rw [nI_clamp j31]
              rw [a3]
              refine xw_iload_n dX10_waiting_60 rfl rfl ?_
              refine xw_icmp_ne (tgt := 68) dX10_waiting_61 (by decide) (fun v1 => ?_) (fun v1 => ?_)
              · exact xw_pc rfl (nope (fun zz => v1 (by rw [zz.2])))
              · have e2 : e.1.2.1 = cc := (nI_eq (by omega) (by omega)).mp v1
                rw [hcs, if_pos (show atF i cc e = true from decide_eq_true ⟨e1, e2⟩)] at ihj
                refine xw_iconst (v := 1) dX10_waiting_64 (by decide) ?_
                refine xw_goto (tgt := 69) dX10_waiting_65 (by decide) ?_
                refine xw_iadd dX10_waiting_69 ?_
                refine xw_istore_n (L2 := [(3, .int ((nI q) + 1)), (4, .int (nI j)), (0, .ref m), (1, .int (nI i)), (2, .int (nI cc))]) dX10_waiting_70 rfl (by decide) rfl ?_
                refine xw_iinc (v := (nI j) + 1) (L2 := [(4, .int ((nI j) + 1)), (3, .int ((nI q) + 1)), (0, .ref m), (1, .int (nI i)), (2, .int (nI cc))]) dX10_waiting_71 rfl rfl (by decide) rfl ?_
                refine xw_goto (tgt := 32) dX10_waiting_74 (by decide) ?_
                rw [nI_1, nI_1]
                refine xw_mem (L2 := [(4, .int (nI (j + 1))), (3, .int (nI (q + 1))), (0, .ref m), (1, .int (nI i)), (2, .int (nI cc))]) (by simp) ?_
                exact ihj
        have lp := loop T.length 0 (by omega)
        rw [← hki, ← hce] at lp
        refine xw_iconst (v := 0) dX10_waiting_27 (by decide) ?_
        refine xw_istore_n (L2 := [(3, .int 0), (0, .ref m), (1, .int k), (2, .int c)]) dX10_waiting_28 rfl (by decide) rfl ?_
        refine xw_iconst (v := 0) dX10_waiting_29 (by decide) ?_
        refine xw_istore (L2 := [(4, .int 0), (3, .int 0), (0, .ref m), (1, .int k), (2, .int c)]) dX10_waiting_30 (by decide) rfl ?_
        refine xw_pc (pc2 := 32) rfl ?_
        exact xw_pc rfl lp
      · skip
        refine xw_iconst (v := (-1)) dX10_waiting_25 (by decide) ?_
        exact xw_iret rfl dX10_waiting_26 ⟨by unfold waitg; rw [if_neg (fun z => z.2.2 (Int32.not_lt.mp d2))], hRM, hE1⟩
  · rw [if_neg hin]
    refine xw_if_eq (tgt := 25) dX10_waiting_10 (by decide) (fun _ => ?_) (fun zz => absurd (by decide) zz)
    refine xw_iconst (v := (-1)) dX10_waiting_25 (by decide) ?_
    exact xw_iret rfl dX10_waiting_26 ⟨by unfold waitg; rw [if_neg (fun z => hin z.1)], hRM, hE1⟩
end MWAIT
