/-! THE REFERENCE: send, sendError, contextOf -/
def fS (s : Nat) : N3 → Bool := fun a => decide (s = 2 ∨ a.1 = s)
section SEND
variable {G : hx_G} {M M1 : hx_S} {m : Nat} {B : Nat → Nat} {ρ ρ' : hr_S} {σ σ' : hs_S} {T : List TK} {i c p s : Nat} {v : V2} {th : Int32} {K : Nat → Int32} {V : Nat → Int64}
theorem gives_cons (σ : hs_S) (a : N3) (l : List N3) (f : N3 → Bool) (c : Nat) (v : V2) : gives σ (a :: l) f c v = gives (if f a = true then come σ a.2.1 a.2.2 c v else σ) l f c v := rfl
theorem gives_congr {f g : N3 → Bool} {l : List N3} (h : ∀ a, a ∈ l → f a = g a) (c : Nat) (v : V2) : ∀ σ : hs_S, gives σ l f c v = gives σ l g c v := by
  induction l with
  | nil => exact fun _ => rfl
  | cons a l ih =>
    intro σ
    rw [gives_cons, gives_cons, h a List.mem_cons_self, ih (fun b hb => h b (List.mem_cons_of_mem _ hb))]
theorem ct_msend (h : RM M m B σ th K V) (hG : GS σ) (hi : i < (sN σ).length) (hc : c < (sC σ).length) (hs : s ≤ 2) (hv : GV (sA σ) v) : CT G 3 76 mX10_send [.ref m, .int (nI i), .int (nI s), .int (nI c), .int v.1, .long v.2] M (fun r M1 => r = none ∧ RM M1 m B (gives σ (nd σ i).2.2 (fS s) c v) th K V ∧ EF M M1 m B) := by
  have h40 := hG.1
  have hl6 := (hG.2.1 i _ (nd_at hi)).2.1
  have i31 : i < 2 ^ 31 := by omega
  have m6 : 6 * nI i = nI (6 * i) := by rw [show (6 : Int32) = nI 6 from by decide +kernel, pk_mul]
  have loop : ∀ (S : hs_S) (k j : Nat) (M' : hx_S) (σ' : hs_S), j + k = (nd σ i).2.2.length → RM M' m B σ' th K V → GS σ' → same9 σ σ' → gives σ' ((nd σ i).2.2.drop j) (fS s) c v = S → EF M M' m B → XW G 3 76 mX10_send [.ref m, .int (nI i), .int (nI s), .int (nI c), .int v.1, .long v.2] M (fun r M1 => r = none ∧ RM M1 m B S th K V ∧ EF M M1 m B) M' 6 [(7, .int (nI (6 * i + j))), (0, .ref m), (1, .int (nI i)), (2, .int (nI s)), (3, .int (nI c)), (4, .int v.1), (5, .long v.2)] [] := by
    intro S k
    induction k with
    | zero =>
      intro j M' σ' hjk hRM hG' hsm hgv hE
      obtain ⟨ρ, T, hR, h0, hAb, hT, hW⟩ := id hRM
      have hi' : i < (sN σ').length := by rw [hsm.1.1]; exact hi
      obtain ⟨-, -, n3, -⟩ := hAb.1.2 i _ (nd_at hi')
      rw [nd_cg hsm.1.1] at n3
      refine xw_iload dX10_send_6 rfl ?_
      refine xw_bipush (v := 6) dX10_send_8 (by decide) ?_
      refine xw_iload_n dX10_send_10 rfl rfl ?_
      refine xw_imul dX10_send_11 ?_
      refine xw_aload_n dX10_send_12 rfl rfl ?_
      refine xw_get (ci := 11) (k := 4) (v := .ref (B 4)) dX10_send_13 hR.1 rfl inX10 (by decide) tw_795 (Or.inl rfl) rfl ?_
      refine xw_iload_n dX10_send_16 rfl rfl ?_
      refine xw_iald dX10_send_17 (hR.2.1 4 rfl) (vp_in_nI (show i < 40 by omega) (by decide)) ?_
      rw [nI_clamp i31]
      rw [n3, m6]
      refine xw_iadd dX10_send_18 ?_
      rw [nI_add]
      refine xw_icmp_ge (tgt := 67) dX10_send_19 (by decide) (fun _ => ?_) (fun zz => absurd (nI_le (show 6 * i + (nd σ i).2.2.length ≤ 6 * i + j by omega) (by omega)) zz)
      rw [List.drop_of_length_le (by omega)] at hgv
      rw [← hgv]
      exact xw_vret rfl dX10_send_67 ⟨rfl, hRM, hE⟩
    | succ k ih =>
      intro j M' σ' hjk hRM hG' hsm hgv hE
      obtain ⟨ρ, T, hR, h0, hAb, hT, hW⟩ := id hRM
      have hi' : i < (sN σ').length := by rw [hsm.1.1]; exact hi
      obtain ⟨-, -, n3, n4⟩ := hAb.1.2 i _ (nd_at hi')
      rw [nd_cg hsm.1.1] at n3 n4
      have hja : j < (nd σ i).2.2.length := by omega
      obtain ⟨e, he⟩ : ∃ e, e = (nd σ i).2.2[j] := ⟨_, rfl⟩
      have hel : (nd σ i).2.2[j]? = some e := by rw [List.getElem?_eq_getElem hja, he]
      obtain ⟨a1, a2, a3⟩ := n4 j e hel
      have hmem : e ∈ (nd σ i).2.2 := List.mem_of_getElem? hel
      obtain ⟨g1, g2, g3⟩ := (hG.2.1 i _ (nd_at hi)).2.2 e hmem
      have hdr : (nd σ i).2.2.drop j = e :: (nd σ i).2.2.drop (j + 1) := by rw [List.drop_eq_getElem_cons hja, ← he]
      rw [hdr, gives_cons] at hgv
      have hin : vp_in (nI (6 * i + j)) 240 := vp_in_nI (by omega) (by decide)
      have hb31 : 6 * i + j < 2 ^ 31 := by omega
      have skip : ∀ (M2 : hx_S) (σ2 : hs_S), RM M2 m B σ2 th K V → GS σ2 → same9 σ σ2 → gives σ2 ((nd σ i).2.2.drop (j + 1)) (fS s) c v = S → EF M M2 m B → XW G 3 76 mX10_send [.ref m, .int (nI i), .int (nI s), .int (nI c), .int v.1, .long v.2] M (fun r M1 => r = none ∧ RM M1 m B S th K V ∧ EF M M1 m B) M2 61 [(7, .int (nI (6 * i + j))), (0, .ref m), (1, .int (nI i)), (2, .int (nI s)), (3, .int (nI c)), (4, .int v.1), (5, .long v.2)] [] := by
        intro M2 σ2 r1 r2 r3 r4 r5
        refine xw_iinc (v := (nI (6 * i + j)) + 1) (L2 := [(7, .int ((nI (6 * i + j)) + 1)), (0, .ref m), (1, .int (nI i)), (2, .int (nI s)), (3, .int (nI c)), (4, .int v.1), (5, .long v.2)]) dX10_send_61 rfl rfl (by decide) rfl ?_
        refine xw_goto (tgt := 6) dX10_send_64 (by decide) ?_
        rw [nI_1]
        exact ih (j + 1) M2 σ2 (by omega) r1 r2 r3 r4 r5
      have doit : (s = 2 ∨ e.1 = s) → XW G 3 76 mX10_send [.ref m, .int (nI i), .int (nI s), .int (nI c), .int v.1, .long v.2] M (fun r M1 => r = none ∧ RM M1 m B S th K V ∧ EF M M1 m B) M' 38 [(7, .int (nI (6 * i + j))), (0, .ref m), (1, .int (nI i)), (2, .int (nI s)), (3, .int (nI c)), (4, .int v.1), (5, .long v.2)] [] := by
        intro hyes
        rw [if_pos (show fS s e = true from decide_eq_true hyes)] at hgv
        refine xw_aload_n dX10_send_38 rfl rfl ?_
        refine xw_aload_n dX10_send_39 rfl rfl ?_
        refine xw_get (ci := 11) (k := 6) (v := .ref (B 6)) dX10_send_40 hR.1 rfl inX10 (by decide) tw_797 (Or.inl rfl) rfl ?_
        refine xw_iload dX10_send_43 rfl ?_
        refine xw_pc (pc2 := 45) rfl ?_
        refine xw_iald dX10_send_45 (hR.2.1 6 rfl) hin ?_
        rw [nI_clamp hb31]
        rw [a2]
        refine xw_aload_n dX10_send_46 rfl rfl ?_
        refine xw_get (ci := 11) (k := 7) (v := .ref (B 7)) dX10_send_47 hR.1 rfl inX10 (by decide) tw_798 (Or.inl rfl) rfl ?_
        refine xw_iload dX10_send_50 rfl ?_
        refine xw_iald dX10_send_52 (hR.2.1 7 rfl) hin ?_
        rw [nI_clamp hb31]
        rw [a3]
        refine xw_iload_n dX10_send_53 rfl rfl ?_
        refine xw_iload dX10_send_54 rfl ?_
        refine xw_lload dX10_send_56 rfl ?_
        have q2 : e.2.1 < (sN σ').length := by rw [hsm.1.1]; exact g2
        have q3 : e.2.2 < pts σ' e.2.1 := by rw [pts_cg hsm.1.1]; exact g3
        have q4 : c < (sC σ').length := by rw [hsm.1.2.1]; exact hc
        have q5 : GV (sA σ') v := by rw [hsm.1.2.2.1]; exact hv
        have hct := ct_mcomes (G := G) (i := e.2.1) (p := e.2.2) (c := c) (v := v) hRM hG' q2 q3 q4 q5
        refine xw_callV (q2 := mX10_comes) (n2 := 5) (ci := 11) (Bs := [.int (nI e.2.1), .int (nI e.2.2), .int (nI c), .int v.1, .long v.2]) (rest := []) (hct) dX10_send_58 rfl (o_at hR.1) rfl rfl tw_943 tw_945 tw_20 tw_47 tw_946 (by decide +kernel) rfl (Nat.le_of_ble_eq_true rfl) (Nat.le_of_ble_eq_true rfl) (Nat.le_of_ble_eq_true rfl) (fun rr M1 hr hle1 => ?_)
        obtain ⟨rfl, hR1, hE1⟩ := hr
        exact xw_pc rfl (skip M1 _ hR1 (hG'.coming q2 q3 q4 q5) (hsm.tr (come_same σ' _ _ _ _)) hgv (hE.tr hE1))
      refine xw_iload dX10_send_6 rfl ?_
      refine xw_bipush (v := 6) dX10_send_8 (by decide) ?_
      refine xw_iload_n dX10_send_10 rfl rfl ?_
      refine xw_imul dX10_send_11 ?_
      refine xw_aload_n dX10_send_12 rfl rfl ?_
      refine xw_get (ci := 11) (k := 4) (v := .ref (B 4)) dX10_send_13 hR.1 rfl inX10 (by decide) tw_795 (Or.inl rfl) rfl ?_
      refine xw_iload_n dX10_send_16 rfl rfl ?_
      refine xw_pc (pc2 := 17) rfl ?_
      refine xw_iald dX10_send_17 (hR.2.1 4 rfl) (vp_in_nI (show i < 40 by omega) (by decide)) ?_
      rw [nI_clamp i31]
      rw [n3, m6]
      refine xw_iadd dX10_send_18 ?_
      rw [nI_add]
      refine xw_icmp_ge (tgt := 67) dX10_send_19 (by decide) (fun zz => absurd zz (nI_ge (show 6 * i + j < 6 * i + (nd σ i).2.2.length by omega) (by omega))) (fun _ => ?_)
      refine xw_iload_n dX10_send_22 rfl rfl ?_
      refine xw_iconst (v := 2) dX10_send_23 (by decide) ?_
      refine xw_icmp_eq (tgt := 38) dX10_send_24 (by decide) (fun c1 => ?_) (fun c1 => ?_)
      · exact xw_pc rfl (doit (Or.inl ((nI_eq (by omega) (by decide)).mp (show nI s = nI 2 from c1))))
      · have s2 : ¬ s = 2 := fun z => c1 (by rw [z]; rfl)
        refine xw_aload_n dX10_send_27 rfl rfl ?_
        refine xw_get (ci := 11) (k := 5) (v := .ref (B 5)) dX10_send_28 hR.1 rfl inX10 (by decide) tw_796 (Or.inl rfl) rfl ?_
        refine xw_iload dX10_send_31 rfl ?_
        refine xw_iald dX10_send_33 (hR.2.1 5 rfl) hin ?_
        rw [nI_clamp hb31]
        rw [a1]
        refine xw_iload_n dX10_send_34 rfl rfl ?_
        refine xw_icmp_ne (tgt := 61) dX10_send_35 (by decide) (fun c2 => ?_) (fun c2 => ?_)
        · have hno : ¬ (s = 2 ∨ e.1 = s) := fun z => z.elim s2 (fun z => c2 (by rw [z]))
          rw [if_neg (show ¬ fS s e = true from fun z => hno (of_decide_eq_true z))] at hgv
          exact xw_pc rfl (skip M' σ' hRM hG' hsm hgv hE)
        · exact xw_pc rfl (doit (Or.inr ((nI_eq (by omega) (by omega)).mp c2)))
  refine ct_go (by decide +kernel) (Nat.le_of_ble_eq_true rfl) (L := [(0, .ref m), (1, .int (nI i)), (2, .int (nI s)), (3, .int (nI c)), (4, .int v.1), (5, .long v.2)]) rfl ?_
  refine xw_bipush (v := 6) dX10_send_0 (by decide) ?_
  refine xw_iload_n dX10_send_2 rfl rfl ?_
  refine xw_imul dX10_send_3 ?_
  refine xw_istore (L2 := [(7, .int (6 * (nI i))), (0, .ref m), (1, .int (nI i)), (2, .int (nI s)), (3, .int (nI c)), (4, .int v.1), (5, .long v.2)]) dX10_send_4 (by decide) rfl ?_
  rw [m6]
  exact xw_pc rfl (loop _ (nd σ i).2.2.length 0 M σ (by omega) h hG (same9.rf σ) rfl (EF.rf M m B))
/-- all arcs of a node that is no SWITCH are on side 0 -/
def GN (σ : hs_S) : Prop := ∀ (i : Nat) (x : ND), (sN σ)[i]? = some x → x.1 ≠ 7 → ∀ e : N3, e ∈ x.2.2 → e.1 = 0
theorem send_0 (hN : GN σ) (hi : i < (sN σ).length) (h7 : (nd σ i).1 ≠ 7) : gives σ (nd σ i).2.2 (fS 0) c v = give σ i c v := gives_congr (fun a ha => decide_eq_true (Or.inr (hN i _ (nd_at hi) h7 a ha))) c v σ
theorem send_2 : gives σ (nd σ i).2.2 (fS 2) c v = give σ i c v := gives_congr (fun a _ => decide_eq_true (Or.inl rfl)) c v σ
theorem send_s (hs : s ≤ 1) : gives σ (nd σ i).2.2 (fS s) c v = giveS σ i s c v := gives_congr (fun a _ => by
  unfold fS
  by_cases h : a.1 = s
  · rw [decide_eq_true (Or.inr h)]; simp [h]
  · rw [decide_eq_false (fun z => z.elim (by omega) h)]; simp [h]) c v σ
theorem ct_msendError {e : Nat} (h : RM M m B σ th K V) (hG : GS σ) (hi : i < (sN σ).length) (hc : c < (sC σ).length) (he : 1 ≤ e ∧ e ≤ 4) : CT G 4 103 mX10_sendError [.ref m, .int (nI i), .int (nI c), .int (nI e)] M (fun r M1 => r = none ∧ RM M1 m B (gives σ (nd σ i).2.2 (fS 0) c (1, lN e)) th K V ∧ EF M M1 m B) := by
  refine ct_go (by decide +kernel) (Nat.le_of_ble_eq_true rfl) (L := [(0, .ref m), (1, .int (nI i)), (2, .int (nI c)), (3, .int (nI e))]) rfl ?_
  obtain ⟨ρ, T, hR, -⟩ := id h
  refine xw_aload_n dX10_sendError_0 rfl rfl ?_
  refine xw_iload_n dX10_sendError_1 rfl rfl ?_
  refine xw_iconst (v := 0) dX10_sendError_2 (by decide) ?_
  refine xw_iload_n dX10_sendError_3 rfl rfl ?_
  refine xw_iconst (v := 1) dX10_sendError_4 (by decide) ?_
  refine xw_iload_n dX10_sendError_5 rfl rfl ?_
  refine xw_i2l dX10_sendError_6 ?_
  refine xw_pc (pc2 := 7) rfl ?_
  rw [nI_l (show e < 2 ^ 31 by omega)]
  have hct := ct_msend (G := G) (i := i) (s := 0) (c := c) (v := (1, lN e)) h hG hi hc (by decide) (Or.inr (Or.inl ⟨rfl, e, he.1, he.2, rfl⟩))
  refine xw_callV (q2 := mX10_send) (n2 := 5) (ci := 11) (Bs := [.int (nI i), .int (nI 0), .int (nI c), .int 1, .long (lN e)]) (rest := []) (hct) dX10_sendError_7 rfl (o_at hR.1) rfl rfl tw_969 tw_971 tw_25 tw_47 tw_972 (by decide +kernel) rfl (Nat.le_of_ble_eq_true rfl) (Nat.le_of_ble_eq_true rfl) (Nat.le_of_ble_eq_true rfl) (fun rr M1 hr hle1 => ?_)
  obtain ⟨rfl, hR1, hE1⟩ := hr
  exact xw_vret rfl dX10_sendError_10 ⟨rfl, hR1, hE1⟩
theorem ct_mcontextOf {o s r0 : Int32} (h : RM M m B σ th K V) (hG : GS σ) : CT G 0 0 mX10_contextOf [.ref m, .int o, .int s, .int r0] M (fun r M1 => (((cnum (sC σ) (o, s, r0)).1 = none ∧ r = some (.int (-1)) ∧ RM M1 m B (uTr (uC σ (cnum (sC σ) (o, s, r0)).2) 2) th K V) ∨ ∃ d, (cnum (sC σ) (o, s, r0)).1 = some d ∧ r = some (.int (nI d)) ∧ RM M1 m B (uC σ (cnum (sC σ) (o, s, r0)).2) th K V) ∧ EF M M1 m B) := by
  obtain ⟨ρ, T, hR, h0, hAb, hT, hW⟩ := h
  obtain ⟨hN, hC, hAr, hRd, hK, hRs, hS1, hS2, hS3, hS4⟩ := id hAb
  obtain ⟨P, hP⟩ : ∃ P : Option Value → hx_S → Prop, P = (fun r M1 => (((cnum (sC σ) (o, s, r0)).1 = none ∧ r = some (.int (-1)) ∧ RM M1 m B (uTr (uC σ (cnum (sC σ) (o, s, r0)).2) 2) th K V) ∨ ∃ d, (cnum (sC σ) (o, s, r0)).1 = some d ∧ r = some (.int (nI d)) ∧ RM M1 m B (uC σ (cnum (sC σ) (o, s, r0)).2) th K V) ∧ EF M M1 m B) := ⟨_, rfl⟩
  rw [← hP]
  have l1 := hG.2.2.1.1
  have l2 := hG.2.2.1.2.1
  have loop : ∀ (k j : Nat), 1 ≤ j → j + k = (sC σ).length → cfind (sC σ) (o, s, r0) ((sC σ).length - 1) 1 = cfind (sC σ) (o, s, r0) k j → XW G 0 0 mX10_contextOf [.ref m, .int o, .int s, .int r0] M P M 3 [(4, .int (nI j)), (0, .ref m), (1, .int o), (2, .int s), (3, .int r0)] [] := by
    intro k
    induction k with
    | zero =>
      intro j hj1 hjk hf
      have hc : cnum (sC σ) (o, s, r0) = if (sC σ).length < 151 then (some (sC σ).length, sC σ ++ [(o, s, r0)]) else (none, sC σ) := by unfold cnum; rw [hf]; rfl
      refine xw_iload dX10_contextOf_3 rfl ?_
      refine xw_aload_n dX10_contextOf_5 rfl rfl ?_
      refine xw_get (ci := 11) (k := 9) (v := .int (ρ.1 9)) dX10_contextOf_6 hR.1 rfl inX10 (by decide) tw_800 (Or.inl rfl) rfl ?_
      rw [hC.1]
      refine xw_icmp_ge (tgt := 54) dX10_contextOf_9 (by decide) (fun _ => ?_) (fun zz => absurd (nI_le (show (sC σ).length ≤ j by omega) (by omega)) zz)
      refine xw_aload_n dX10_contextOf_54 rfl rfl ?_
      refine xw_get (ci := 11) (k := 9) (v := .int (ρ.1 9)) dX10_contextOf_55 hR.1 rfl inX10 (by decide) tw_800 (Or.inl rfl) rfl ?_
      refine xw_sipush (v := 151) dX10_contextOf_58 (by decide) ?_
      rw [hC.1]
      refine xw_icmp_ne (tgt := 71) dX10_contextOf_61 (by decide) (fun c1 => ?_) (fun c1 => ?_)
      · have hf2 : (sC σ).length < 151 := by
          rcases Nat.lt_or_ge (sC σ).length 151 with z | z
          · exact z
          · exact absurd (show nI (sC σ).length = nI 151 by rw [show (sC σ).length = 151 by omega]) c1
        rw [if_pos hf2] at hc
        have hin : vp_in (nI (sC σ).length) 151 := vp_in_nI hf2 (by decide)
        have hl31 : (sC σ).length < 2 ^ 31 := by omega
        refine xw_aload_n dX10_contextOf_71 rfl rfl ?_
        refine xw_get (ci := 11) (k := 10) (v := .ref (B 10)) dX10_contextOf_72 hR.1 rfl inX10 (by decide) tw_801 (Or.inl rfl) rfl ?_
        refine xw_aload_n dX10_contextOf_75 rfl rfl ?_
        refine xw_get (ci := 11) (k := 9) (v := .int (ρ.1 9)) dX10_contextOf_76 hR.1 rfl inX10 (by decide) tw_800 (Or.inl rfl) rfl ?_
        refine xw_iload_n dX10_contextOf_79 rfl rfl ?_
        rw [hC.1]
        refine xw_iast dX10_contextOf_80 (hR.2.1 10 rfl) hin ?_
        rw [nI_clamp hl31]
        have hR1 : RW (iput M (B 10) (some (ilen 10, upd (ρ.2.1 10) ((sC σ).length) o))) m B (rI ρ 10 (upd (ρ.2.1 10) ((sC σ).length) o)) := hR.iset rfl
        have hE1 : EF M (iput M (B 10) (some (ilen 10, upd (ρ.2.1 10) ((sC σ).length) o))) m B := (EF.rf M m B).tr (EF.i rfl)
        generalize iput M (B 10) (some (ilen 10, upd (ρ.2.1 10) ((sC σ).length) o)) = M1 at hR1 hE1 ⊢
        have hA1 := (AG.rf [9, 10, 11, 12] ρ).i (k := 10) (f := (upd (ρ.2.1 10) ((sC σ).length) o)) (by decide)
        refine xw_aload_n dX10_contextOf_81 rfl rfl ?_
        refine xw_get (ci := 11) (k := 11) (v := .ref (B 11)) dX10_contextOf_82 hR1.1 rfl inX10 (by decide) tw_802 (Or.inl rfl) rfl ?_
        refine xw_aload_n dX10_contextOf_85 rfl rfl ?_
        refine xw_get (ci := 11) (k := 9) (v := .int ((rI ρ 10 (upd (ρ.2.1 10) ((sC σ).length) o)).1 9)) dX10_contextOf_86 hR1.1 rfl inX10 (by decide) tw_800 (Or.inl rfl) rfl ?_
        refine xw_iload_n dX10_contextOf_89 rfl rfl ?_
        refine xw_pc (pc2 := 90) rfl ?_
        rw [show (rI ρ 10 (upd (ρ.2.1 10) (sC σ).length o)).1 9 = nI (sC σ).length from hC.1]
        refine xw_iast dX10_contextOf_90 (hR1.2.1 11 rfl) hin ?_
        rw [nI_clamp hl31]
        have hR2 : RW (iput M1 (B 11) (some (ilen 11, upd ((rI ρ 10 (upd (ρ.2.1 10) ((sC σ).length) o)).2.1 11) ((sC σ).length) s))) m B (rI (rI ρ 10 (upd (ρ.2.1 10) ((sC σ).length) o)) 11 (upd ((rI ρ 10 (upd (ρ.2.1 10) ((sC σ).length) o)).2.1 11) ((sC σ).length) s)) := hR1.iset rfl
        have hE2 : EF M (iput M1 (B 11) (some (ilen 11, upd ((rI ρ 10 (upd (ρ.2.1 10) ((sC σ).length) o)).2.1 11) ((sC σ).length) s))) m B := hE1.tr (EF.i rfl)
        generalize iput M1 (B 11) (some (ilen 11, upd ((rI ρ 10 (upd (ρ.2.1 10) ((sC σ).length) o)).2.1 11) ((sC σ).length) s)) = M2 at hR2 hE2 ⊢
        have hA2 := hA1.i (k := 11) (f := (upd ((rI ρ 10 (upd (ρ.2.1 10) ((sC σ).length) o)).2.1 11) ((sC σ).length) s)) (by decide)
        refine xw_aload_n dX10_contextOf_91 rfl rfl ?_
        refine xw_get (ci := 11) (k := 12) (v := .ref (B 12)) dX10_contextOf_92 hR2.1 rfl inX10 (by decide) tw_803 (Or.inl rfl) rfl ?_
        refine xw_aload_n dX10_contextOf_95 rfl rfl ?_
        refine xw_get (ci := 11) (k := 9) (v := .int ((rI (rI ρ 10 (upd (ρ.2.1 10) ((sC σ).length) o)) 11 (upd ((rI ρ 10 (upd (ρ.2.1 10) ((sC σ).length) o)).2.1 11) ((sC σ).length) s)).1 9)) dX10_contextOf_96 hR2.1 rfl inX10 (by decide) tw_800 (Or.inl rfl) rfl ?_
        refine xw_iload_n dX10_contextOf_99 rfl rfl ?_
        rw [show (rI (rI ρ 10 (upd (ρ.2.1 10) (sC σ).length o)) 11 (upd ((rI ρ 10 (upd (ρ.2.1 10) (sC σ).length o)).2.1 11) (sC σ).length s)).1 9 = nI (sC σ).length from hC.1]
        refine xw_iast dX10_contextOf_100 (hR2.2.1 12 rfl) hin ?_
        rw [nI_clamp hl31]
        have hR3 : RW (iput M2 (B 12) (some (ilen 12, upd ((rI (rI ρ 10 (upd (ρ.2.1 10) ((sC σ).length) o)) 11 (upd ((rI ρ 10 (upd (ρ.2.1 10) ((sC σ).length) o)).2.1 11) ((sC σ).length) s)).2.1 12) ((sC σ).length) r0))) m B (rI (rI (rI ρ 10 (upd (ρ.2.1 10) ((sC σ).length) o)) 11 (upd ((rI ρ 10 (upd (ρ.2.1 10) ((sC σ).length) o)).2.1 11) ((sC σ).length) s)) 12 (upd ((rI (rI ρ 10 (upd (ρ.2.1 10) ((sC σ).length) o)) 11 (upd ((rI ρ 10 (upd (ρ.2.1 10) ((sC σ).length) o)).2.1 11) ((sC σ).length) s)).2.1 12) ((sC σ).length) r0)) := hR2.iset rfl
        have hE3 : EF M (iput M2 (B 12) (some (ilen 12, upd ((rI (rI ρ 10 (upd (ρ.2.1 10) ((sC σ).length) o)) 11 (upd ((rI ρ 10 (upd (ρ.2.1 10) ((sC σ).length) o)).2.1 11) ((sC σ).length) s)).2.1 12) ((sC σ).length) r0))) m B := hE2.tr (EF.i rfl)
        generalize iput M2 (B 12) (some (ilen 12, upd ((rI (rI ρ 10 (upd (ρ.2.1 10) ((sC σ).length) o)) 11 (upd ((rI ρ 10 (upd (ρ.2.1 10) ((sC σ).length) o)).2.1 11) ((sC σ).length) s)).2.1 12) ((sC σ).length) r0)) = M3 at hR3 hE3 ⊢
        have hA3 := hA2.i (k := 12) (f := (upd ((rI (rI ρ 10 (upd (ρ.2.1 10) ((sC σ).length) o)) 11 (upd ((rI ρ 10 (upd (ρ.2.1 10) ((sC σ).length) o)).2.1 11) ((sC σ).length) s)).2.1 12) ((sC σ).length) r0)) (by decide)
        obtain ⟨ρ3, hρ3⟩ : ∃ ρ3, ρ3 = rI (rI (rI ρ 10 (upd (ρ.2.1 10) (sC σ).length o)) 11 (upd ((rI ρ 10 (upd (ρ.2.1 10) (sC σ).length o)).2.1 11) (sC σ).length s)) 12 (upd ((rI (rI ρ 10 (upd (ρ.2.1 10) (sC σ).length o)) 11 (upd ((rI ρ 10 (upd (ρ.2.1 10) (sC σ).length o)).2.1 11) (sC σ).length s)).2.1 12) (sC σ).length r0) := ⟨_, rfl⟩
        rw [← hρ3] at hR3 hA3
        have g3 : ρ3.1 = ρ.1 ∧ ρ3.2.1 10 = upd (ρ.2.1 10) (sC σ).length o ∧ ρ3.2.1 11 = upd (ρ.2.1 11) (sC σ).length s ∧ ρ3.2.1 12 = upd (ρ.2.1 12) (sC σ).length r0 := by rw [hρ3]; simp [rS_1, rS_2, rS_3, rI_1, rI_2, rI_3, rJ_1, rJ_2, rJ_3]
        clear hρ3 hR1 hR2 hA1 hA2
        refine xw_aload_n dX10_contextOf_101 rfl rfl ?_
        refine xw_dup dX10_contextOf_102 rfl ?_
        refine xw_get (ci := 11) (k := 9) (v := .int (ρ3.1 9)) dX10_contextOf_103 hR3.1 rfl inX10 (by decide) tw_800 (Or.inl rfl) rfl ?_
        refine xw_iconst (v := 1) dX10_contextOf_106 (by decide) ?_
        refine xw_iadd dX10_contextOf_107 ?_
        rw [show ρ3.1 9 = nI (sC σ).length by rw [g3.1]; exact hC.1, nI_1]
        refine xw_put (ci := 11) (k := 9) tyX10 dX10_contextOf_108 hR3.1 rfl inX10 tyX10_ok nmX10 (by decide) tw_800 (Or.inl rfl) rfl rfl rfl rfl (Nat.le_of_ble_eq_true rfl) ?_
        dsimp only [flM, List.set]
        have hR4 : RW (oput M3 11 m (some [.int (ρ3.1 0), .int (ρ3.1 1), .ref (B 2), .ref (B 3), .ref (B 4), .ref (B 5), .ref (B 6), .ref (B 7), .int (ρ3.1 8), .int ((nI ((sC σ).length + 1))), .ref (B 10), .ref (B 11), .ref (B 12), .int (ρ3.1 13), .ref (B 14), .ref (B 15), .ref (B 16), .int (ρ3.1 17), .ref (B 18), .ref (B 19), .ref (B 20), .ref (B 21), .ref (B 22), .int (ρ3.1 23), .ref (B 24), .ref (B 25), .ref (B 26), .ref (B 27), .int (ρ3.1 28), .ref (B 29), .ref (B 30), .ref (B 31), .int (ρ3.1 32), .ref (B 33), .ref (B 34), .ref (B 35), .int (ρ3.1 36), .int (ρ3.1 37), .int (ρ3.1 38), .ref (B 39), .ref (B 40)])) m B (rS ρ3 9 (nI ((sC σ).length + 1))) := hR3.sset (k := 9) (v := (nI ((sC σ).length + 1)))
        have hE4 : EF M (oput M3 11 m (some [.int (ρ3.1 0), .int (ρ3.1 1), .ref (B 2), .ref (B 3), .ref (B 4), .ref (B 5), .ref (B 6), .ref (B 7), .int (ρ3.1 8), .int ((nI ((sC σ).length + 1))), .ref (B 10), .ref (B 11), .ref (B 12), .int (ρ3.1 13), .ref (B 14), .ref (B 15), .ref (B 16), .int (ρ3.1 17), .ref (B 18), .ref (B 19), .ref (B 20), .ref (B 21), .ref (B 22), .int (ρ3.1 23), .ref (B 24), .ref (B 25), .ref (B 26), .ref (B 27), .int (ρ3.1 28), .ref (B 29), .ref (B 30), .ref (B 31), .int (ρ3.1 32), .ref (B 33), .ref (B 34), .ref (B 35), .int (ρ3.1 36), .int (ρ3.1 37), .int (ρ3.1 38), .ref (B 39), .ref (B 40)])) m B := hE3.tr EF.o
        generalize oput M3 11 m (some [.int (ρ3.1 0), .int (ρ3.1 1), .ref (B 2), .ref (B 3), .ref (B 4), .ref (B 5), .ref (B 6), .ref (B 7), .int (ρ3.1 8), .int ((nI ((sC σ).length + 1))), .ref (B 10), .ref (B 11), .ref (B 12), .int (ρ3.1 13), .ref (B 14), .ref (B 15), .ref (B 16), .int (ρ3.1 17), .ref (B 18), .ref (B 19), .ref (B 20), .ref (B 21), .ref (B 22), .int (ρ3.1 23), .ref (B 24), .ref (B 25), .ref (B 26), .ref (B 27), .int (ρ3.1 28), .ref (B 29), .ref (B 30), .ref (B 31), .int (ρ3.1 32), .ref (B 33), .ref (B 34), .ref (B 35), .int (ρ3.1 36), .int (ρ3.1 37), .int (ρ3.1 38), .ref (B 39), .ref (B 40)]) = M4 at hR4 hE4 ⊢
        have hA4 := hA3.s (k := 9) (v := (nI ((sC σ).length + 1))) (by decide)
        have v9 : (rS ρ3 9 (nI ((sC σ).length + 1))).1 9 = nI ((sC σ).length + 1) := by rw [rS_1, if_pos rfl]
        refine xw_aload_n dX10_contextOf_111 rfl rfl ?_
        refine xw_get (ci := 11) (k := 9) (v := .int ((rS ρ3 9 (nI ((sC σ).length + 1))).1 9)) dX10_contextOf_112 hR4.1 rfl inX10 (by decide) tw_800 (Or.inl rfl) rfl ?_
        refine xw_iconst (v := 1) dX10_contextOf_115 (by decide) ?_
        refine xw_isub dX10_contextOf_116 ?_
        refine xw_pc (pc2 := 117) rfl ?_
        rw [v9, nI_pred]
        rw [hP]
        refine xw_iret rfl dX10_contextOf_117 ⟨Or.inr ⟨(sC σ).length, by rw [hc], rfl, rS ρ3 9 (nI ((sC σ).length + 1)), T, hR4, ⟨(hA4 0 (by decide)).1.trans h0.1, (hA4 39 (by decide)).2.1.trans h0.2.1, (hA4 40 (by decide)).2.2.trans h0.2.2⟩, ⟨?_, ?_, ?_, ?_, ?_, ?_, ?_⟩, hT.ag hA4 (by decide), hW.1, ?_⟩, hE4⟩
        · rw [sN_uC]; exact hN.ag hA4 (by decide)
        · rw [sC_uC, hc]
          refine ⟨by rw [v9, List.length_append, List.length_singleton], fun k e he => ?_⟩
          rw [rS_2, g3.2.1, g3.2.2.1, g3.2.2.2]
          by_cases hk : k < (sC σ).length
          · rw [List.getElem?_append_left hk] at he
            rw [pk_un (by omega), pk_un (by omega), pk_un (by omega)]
            exact hC.2 k e he
          · rw [List.getElem?_append_right (by omega)] at he
            have z := (List.getElem?_eq_some_iff.mp he).1
            rw [List.length_singleton] at z
            obtain rfl : k = (sC σ).length := by omega
            rw [show (sC σ).length - (sC σ).length = 0 by omega] at he
            cases he
            exact ⟨pk_us, pk_us, pk_us⟩
        · rw [sA_uC, sLe_uC, sCe_uC]; exact hAr.ag hA4 (by decide)
        · rw [sR_uC]; exact hRd.ag hA4 (by decide)
        · rw [sK_uC]; exact hK.ag hA4 (by decide)
        · rw [sRs_uC]; exact hRs.ag hA4 (by decide)
        · have q := HSc.ag (σ := σ) ⟨hS1, hS2, hS3, hS4⟩ hA4 (by decide)
          unfold HSc at q ⊢
          rw [sB_uC, sTr_uC, sW_uC, sAl_uC]; exact q
        · intro a b c' d; rw [sT_uC]; exact hW.2 a b c' d
      · have hf2 : (sC σ).length = 151 := (nI_eq (by omega) (by decide)).mp (show nI (sC σ).length = nI 151 from c1)
        rw [if_neg (by omega)] at hc
        refine xw_aload_n dX10_contextOf_64 rfl rfl ?_
        refine xw_iconst (v := 2) dX10_contextOf_65 (by decide) ?_
        refine xw_put (ci := 11) (k := 36) tyX10 dX10_contextOf_66 hR.1 rfl inX10 tyX10_ok nmX10 (by decide) tw_827 (Or.inl rfl) rfl rfl rfl rfl (Nat.le_of_ble_eq_true rfl) ?_
        dsimp only [flM, List.set]
        have hR1 : RW (oput M 11 m (some [.int (ρ.1 0), .int (ρ.1 1), .ref (B 2), .ref (B 3), .ref (B 4), .ref (B 5), .ref (B 6), .ref (B 7), .int (ρ.1 8), .int (ρ.1 9), .ref (B 10), .ref (B 11), .ref (B 12), .int (ρ.1 13), .ref (B 14), .ref (B 15), .ref (B 16), .int (ρ.1 17), .ref (B 18), .ref (B 19), .ref (B 20), .ref (B 21), .ref (B 22), .int (ρ.1 23), .ref (B 24), .ref (B 25), .ref (B 26), .ref (B 27), .int (ρ.1 28), .ref (B 29), .ref (B 30), .ref (B 31), .int (ρ.1 32), .ref (B 33), .ref (B 34), .ref (B 35), .int (2), .int (ρ.1 37), .int (ρ.1 38), .ref (B 39), .ref (B 40)])) m B (rS ρ 36 2) := hR.sset (k := 36) (v := 2)
        have hE1 : EF M (oput M 11 m (some [.int (ρ.1 0), .int (ρ.1 1), .ref (B 2), .ref (B 3), .ref (B 4), .ref (B 5), .ref (B 6), .ref (B 7), .int (ρ.1 8), .int (ρ.1 9), .ref (B 10), .ref (B 11), .ref (B 12), .int (ρ.1 13), .ref (B 14), .ref (B 15), .ref (B 16), .int (ρ.1 17), .ref (B 18), .ref (B 19), .ref (B 20), .ref (B 21), .ref (B 22), .int (ρ.1 23), .ref (B 24), .ref (B 25), .ref (B 26), .ref (B 27), .int (ρ.1 28), .ref (B 29), .ref (B 30), .ref (B 31), .int (ρ.1 32), .ref (B 33), .ref (B 34), .ref (B 35), .int (2), .int (ρ.1 37), .int (ρ.1 38), .ref (B 39), .ref (B 40)])) m B := (EF.rf M m B).tr EF.o
        generalize oput M 11 m (some [.int (ρ.1 0), .int (ρ.1 1), .ref (B 2), .ref (B 3), .ref (B 4), .ref (B 5), .ref (B 6), .ref (B 7), .int (ρ.1 8), .int (ρ.1 9), .ref (B 10), .ref (B 11), .ref (B 12), .int (ρ.1 13), .ref (B 14), .ref (B 15), .ref (B 16), .int (ρ.1 17), .ref (B 18), .ref (B 19), .ref (B 20), .ref (B 21), .ref (B 22), .int (ρ.1 23), .ref (B 24), .ref (B 25), .ref (B 26), .ref (B 27), .int (ρ.1 28), .ref (B 29), .ref (B 30), .ref (B 31), .int (ρ.1 32), .ref (B 33), .ref (B 34), .ref (B 35), .int (2), .int (ρ.1 37), .int (ρ.1 38), .ref (B 39), .ref (B 40)]) = M1 at hR1 hE1 ⊢
        have hA1 := (AG.rf [36] ρ).s (k := 36) (v := 2) (by decide)
        refine xw_iconst (v := (-1)) dX10_contextOf_69 (by decide) ?_
        rw [hP]
        refine xw_iret rfl dX10_contextOf_70 ⟨Or.inl ⟨by rw [hc], rfl, rS ρ 36 2, T, hR1, h0, ⟨?_, ?_, ?_, ?_, ?_, ?_, ?_⟩, hT.ag hA1 (by decide), hW.1, ?_⟩, hE1⟩
        · rw [sN_uTr, sN_uC]; exact hN.ag hA1 (by decide)
        · rw [sC_uTr, sC_uC, hc]; exact hC.ag hA1 (by decide)
        · rw [sA_uTr, sA_uC, sLe_uTr, sLe_uC, sCe_uTr, sCe_uC]; exact hAr.ag hA1 (by decide)
        · rw [sR_uTr, sR_uC]; exact hRd.ag hA1 (by decide)
        · rw [sK_uTr, sK_uC]; exact hK.ag hA1 (by decide)
        · rw [sRs_uTr, sRs_uC]; exact hRs.ag hA1 (by decide)
        · unfold HSc
          rw [sB_uTr, sB_uC, sTr_uTr, sW_uTr, sW_uC, sAl_uTr, sAl_uC, (hA1 8 (by decide)).1, (hA1 37 (by decide)).1, (hA1 38 (by decide)).1]
          exact ⟨hS1, rfl, hS3, hS4⟩
        · intro a b c' d; rw [sT_uTr, sT_uC]; exact hW.2 a b c' d
    | succ k ih =>
      intro j hj1 hjk hf
      have hjl : j < (sC σ).length := by omega
      obtain ⟨e, he⟩ : ∃ e, (sC σ)[j]? = some e := ⟨_, List.getElem?_eq_getElem hjl⟩
      obtain ⟨q1, q2, q3⟩ := hC.2 j e he
      have hin : vp_in (nI j) 151 := vp_in_nI (by omega) (by decide)
      have hj31 : j < 2 ^ 31 := by omega
      have next : ¬ e = (o, s, r0) → XW G 0 0 mX10_contextOf [.ref m, .int o, .int s, .int r0] M P M 48 [(4, .int (nI j)), (0, .ref m), (1, .int o), (2, .int s), (3, .int r0)] [] := by
        intro hne
        refine xw_iinc (v := (nI j) + 1) (L2 := [(4, .int ((nI j) + 1)), (0, .ref m), (1, .int o), (2, .int s), (3, .int r0)]) dX10_contextOf_48 rfl rfl (by decide) rfl ?_
        refine xw_goto (tgt := 3) dX10_contextOf_51 (by decide) ?_
        rw [nI_1]
        refine ih (j + 1) (by omega) (by omega) (hf.trans ?_)
        show (if (sC σ)[j]? = some (o, s, r0) then some j else cfind (sC σ) (o, s, r0) k (j + 1)) = _
        rw [if_neg (fun z => hne (Option.some.inj (he.symm.trans z)))]
      refine xw_iload dX10_contextOf_3 rfl ?_
      refine xw_aload_n dX10_contextOf_5 rfl rfl ?_
      refine xw_get (ci := 11) (k := 9) (v := .int (ρ.1 9)) dX10_contextOf_6 hR.1 rfl inX10 (by decide) tw_800 (Or.inl rfl) rfl ?_
      rw [hC.1]
      refine xw_icmp_ge (tgt := 54) dX10_contextOf_9 (by decide) (fun zz => absurd zz (nI_ge hjl (by omega))) (fun _ => ?_)
      refine xw_aload_n dX10_contextOf_12 rfl rfl ?_
      refine xw_get (ci := 11) (k := 10) (v := .ref (B 10)) dX10_contextOf_13 hR.1 rfl inX10 (by decide) tw_801 (Or.inl rfl) rfl ?_
      refine xw_iload dX10_contextOf_16 rfl ?_
      refine xw_iald dX10_contextOf_18 (hR.2.1 10 rfl) hin ?_
      rw [nI_clamp hj31]
      rw [q1]
      refine xw_iload_n dX10_contextOf_19 rfl rfl ?_
      refine xw_icmp_ne (tgt := 48) dX10_contextOf_20 (by decide) (fun c1 => ?_) (fun c1 => ?_)
      · exact xw_pc rfl (next (fun z => c1 (by rw [z])))
      · skip
        refine xw_aload_n dX10_contextOf_23 rfl rfl ?_
        refine xw_get (ci := 11) (k := 11) (v := .ref (B 11)) dX10_contextOf_24 hR.1 rfl inX10 (by decide) tw_802 (Or.inl rfl) rfl ?_
        refine xw_iload dX10_contextOf_27 rfl ?_
        refine xw_pc (pc2 := 29) rfl ?_
        refine xw_iald dX10_contextOf_29 (hR.2.1 11 rfl) hin ?_
        rw [nI_clamp hj31]
        rw [q2]
        refine xw_iload_n dX10_contextOf_30 rfl rfl ?_
        refine xw_icmp_ne (tgt := 48) dX10_contextOf_31 (by decide) (fun c2 => ?_) (fun c2 => ?_)
        · exact xw_pc rfl (next (fun z => c2 (by rw [z])))
        · skip
          refine xw_aload_n dX10_contextOf_34 rfl rfl ?_
          refine xw_get (ci := 11) (k := 12) (v := .ref (B 12)) dX10_contextOf_35 hR.1 rfl inX10 (by decide) tw_803 (Or.inl rfl) rfl ?_
          refine xw_iload dX10_contextOf_38 rfl ?_
          refine xw_iald dX10_contextOf_40 (hR.2.1 12 rfl) hin ?_
          rw [nI_clamp hj31]
          rw [q3]
          refine xw_iload_n dX10_contextOf_41 rfl rfl ?_
          refine xw_icmp_ne (tgt := 48) dX10_contextOf_42 (by decide) (fun c3 => ?_) (fun c3 => ?_)
          · exact xw_pc rfl (next (fun z => c3 (by rw [z])))
          · have hee : e = (o, s, r0) := by rw [← c1, ← c2, ← c3]
            have hc : cnum (sC σ) (o, s, r0) = (some j, sC σ) := by
              unfold cnum
              rw [hf, show cfind (sC σ) (o, s, r0) (k + 1) j = some j from if_pos (by rw [he, hee])]
            refine xw_iload dX10_contextOf_45 rfl ?_
            rw [hP]
            refine xw_iret rfl dX10_contextOf_47 ⟨Or.inr ⟨j, by rw [hc], rfl, ρ, T, hR, h0, ⟨?_, ?_, ?_, ?_, ?_, ?_, ?_⟩, hT, hW.1, ?_⟩, EF.rf M m B⟩
            · rw [sN_uC]; exact hN
            · rw [sC_uC, hc]; exact hC
            · rw [sA_uC, sLe_uC, sCe_uC]; exact hAr
            · rw [sR_uC]; exact hRd
            · rw [sK_uC]; exact hK
            · rw [sRs_uC]; exact hRs
            · unfold HSc; rw [sB_uC, sTr_uC, sW_uC, sAl_uC]; exact ⟨hS1, hS2, hS3, hS4⟩
            · intro a b c' d; rw [sT_uC]; exact hW.2 a b c' d
  refine ct_go (by decide +kernel) (Nat.le_of_ble_eq_true rfl) (L := [(0, .ref m), (1, .int o), (2, .int s), (3, .int r0)]) rfl ?_
  refine xw_iconst (v := 1) dX10_contextOf_0 (by decide) ?_
  refine xw_istore (L2 := [(4, .int 1), (0, .ref m), (1, .int o), (2, .int s), (3, .int r0)]) dX10_contextOf_1 (by decide) rfl ?_
  have l := loop ((sC σ).length - 1) 1 (Nat.le_refl 1) (by omega) rfl
  rw [show nI 1 = 1 from by decide +kernel] at l
  exact xw_pc rfl l
end SEND
