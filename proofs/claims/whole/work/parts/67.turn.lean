/-! THE REFERENCE: part, turn, callOrBack -/
section TURN
variable {G : hx_G} {M M1 : hx_S} {m : Nat} {B : Nat → Nat} {ρ ρ' : hr_S} {σ σ' : hs_S} {T : List TK} {i c p s na k : Nat} {v x y : V2} {th : Int32} {K : Nat → Int32} {V : Nat → Int64}
theorem GS.gives (f : N3 → Bool) (hv : GV (sA σ) v) (hc : c < (sC σ).length) (l : List N3) (hl : ∀ e, e ∈ l → e.2.1 < (sN σ).length ∧ e.2.2 < pts σ e.2.1) (h : GS σ) : GS (gives σ l f c v) := by
  induction l generalizing σ with
  | nil => exact h
  | cons a l ih =>
    rw [gives_cons]
    obtain ⟨a1, a2⟩ := hl a List.mem_cons_self
    by_cases e : f a = true
    · rw [if_pos e]
      have s := come_same σ a.2.1 a.2.2 c v
      refine ih (by rw [s.1.2.2.1]; exact hv) (by rw [s.1.2.1]; exact hc) (fun b hb => ?_) (h.coming a1 a2 hc hv)
      rw [s.1.1, pts_cg s.1.1]
      exact hl b (List.mem_cons_of_mem _ hb)
    · rw [if_neg e]
      exact ih hv hc (fun b hb => hl b (List.mem_cons_of_mem _ hb)) h
theorem GS.arcs (h : GS σ) (hi : i < (sN σ).length) : ∀ e, e ∈ (nd σ i).2.2 → e.2.1 < (sN σ).length ∧ e.2.2 < pts σ e.2.1 := fun e he => ((h.2.1 i _ (nd_at hi)).2.2 e he).2

theorem GN.cg (h : GN σ) (e : sN σ' = sN σ) : GN σ' := by unfold GN; rw [e]; exact h
theorem v_eta (v : V2) : (v.1, v.2) = v := rfl
theorem ct_mpart (h : RM M m B σ th K V) (hG : GS σ) (hi : i < (sN σ).length) (hc : c < (sC σ).length) (hx : GV (sA σ) x) (hy : GV (sA σ) y) (k0 : K 0 = x.1 ∧ V 0 = x.2) (k1 : K 1 = y.1 ∧ V 1 = y.2) : CT G 4 103 mX10_part [.ref m, .int (nI i), .int (nI c)] M (fun r M1 => r = none ∧ RM M1 m B (choose σ i c x y) th K V ∧ EF M M1 m B) := by
  obtain ⟨ρ, T, hR, h0, -⟩ := id h
  have in0 : vp_in (nI 0) 3 := vp_in_nI (by decide) (by decide)
  have in1 : vp_in (nI 1) 3 := vp_in_nI (by decide) (by decide)
  refine ct_go (by decide +kernel) (Nat.le_of_ble_eq_true rfl) (L := [(0, .ref m), (1, .int (nI i)), (2, .int (nI c))]) rfl ?_
  refine xw_aload_n dX10_part_0 rfl rfl ?_
  refine xw_get (ci := 11) (k := 39) (v := .ref (B 39)) dX10_part_1 hR.1 rfl inX10 (by decide) tw_830 (Or.inl rfl) rfl ?_
  refine xw_iconst (v := 1) dX10_part_4 (by decide) ?_
  refine xw_iald dX10_part_5 (hR.2.1 39 rfl) in1 ?_
  rw [cl1]
  rw [h0.2.1, k1.1]
  refine xw_if_ne (tgt := 44) dX10_part_6 (by decide) (fun d1 => ?_) (fun d1 => ?_)
  · have hy0 : ¬ y.1 = 0 := d1
    have tail : ∀ e : Int64, ((1 : Int32), e) = (if y.1 = 1 then y else (1, 4)) → XW G 4 103 mX10_part [.ref m, .int (nI i), .int (nI c)] M (fun r M1 => r = none ∧ RM M1 m B (choose σ i c x y) th K V ∧ EF M M1 m B) M 66 [(0, .ref m), (1, .int (nI i)), (2, .int (nI c))] [.long e] := by
      intro e he
      have hge : GV (sA σ) ((1 : Int32), e) := by
        rw [he]
        split
        · exact hy
        · exact Or.inr (Or.inl ⟨rfl, 4, by decide, by decide, rfl⟩)
      refine xw_lstore_n (L2 := [(3, .long e), (0, .ref m), (1, .int (nI i)), (2, .int (nI c))]) dX10_part_66 rfl (by decide) rfl ?_
      refine xw_aload_n dX10_part_67 rfl rfl ?_
      refine xw_iload_n dX10_part_68 rfl rfl ?_
      refine xw_iconst (v := 0) dX10_part_69 (by decide) ?_
      refine xw_iload_n dX10_part_70 rfl rfl ?_
      refine xw_iconst (v := 1) dX10_part_71 (by decide) ?_
      refine xw_lload_n dX10_part_72 rfl rfl ?_
      have q1 := ct_msend (G := G) (i := i) (s := 0) (c := c) (v := ((1 : Int32), e)) h hG hi hc (by decide) hge
      refine xw_callV (q2 := mX10_send) (n2 := 5) (ci := 11) (Bs := [.int (nI i), .int (nI 0), .int (nI c), .int 1, .long e]) (rest := []) (q1) dX10_part_73 rfl (o_at hR.1) rfl rfl tw_969 tw_971 tw_25 tw_47 tw_972 (by decide +kernel) rfl (Nat.le_of_ble_eq_true rfl) (Nat.le_of_ble_eq_true rfl) (Nat.le_of_ble_eq_true rfl) (fun rr M1 hr hle1 => ?_)
      obtain ⟨rfl, hR1, hE1⟩ := hr
      have s1 : same9 σ (gives σ (nd σ i).2.2 (fS 0) c ((1 : Int32), e)) := gives_same _ _ _ _ σ
      have hG1 : GS (gives σ (nd σ i).2.2 (fS 0) c ((1 : Int32), e)) := GS.gives _ hge hc _ (hG.arcs hi) hG
      obtain ⟨ρ1, T1, hRW1, -⟩ := id hR1
      have q2 := ct_msend (G := G) (i := i) (s := 1) (c := c) (v := ((1 : Int32), e)) hR1 hG1 (by rw [s1.1.1]; exact hi) (by rw [s1.1.2.1]; exact hc) (by decide) (by rw [s1.1.2.2.1]; exact hge)
      refine xw_aload_n dX10_part_76 rfl rfl ?_
      refine xw_iload_n dX10_part_77 rfl rfl ?_
      refine xw_iconst (v := 1) dX10_part_78 (by decide) ?_
      refine xw_iload_n dX10_part_79 rfl rfl ?_
      refine xw_iconst (v := 1) dX10_part_80 (by decide) ?_
      refine xw_lload_n dX10_part_81 rfl rfl ?_
      refine xw_pc (pc2 := 82) rfl ?_
      refine xw_callV (q2 := mX10_send) (n2 := 5) (ci := 11) (Bs := [.int (nI i), .int (nI 1), .int (nI c), .int 1, .long e]) (rest := []) (q2) dX10_part_82 rfl (o_at hRW1.1) rfl rfl tw_969 tw_971 tw_25 tw_47 tw_972 (by decide +kernel) rfl (Nat.le_of_ble_eq_true rfl) (Nat.le_of_ble_eq_true rfl) (Nat.le_of_ble_eq_true rfl) (fun rr M1 hr hle1 => ?_)
      obtain ⟨rfl, hR2, hE2⟩ := hr
      rw [send_s (by decide), send_s (by decide)] at hR2
      have hch : choose σ i c x y = giveS (giveS σ i 0 c ((1 : Int32), e)) i 1 c ((1 : Int32), e) := by unfold choose; rw [if_neg hy0, he]
      rw [hch]
      exact xw_vret rfl dX10_part_85 ⟨rfl, hR2, hE1.tr hE2⟩
    refine xw_aload_n dX10_part_44 rfl rfl ?_
    refine xw_get (ci := 11) (k := 39) (v := .ref (B 39)) dX10_part_45 hR.1 rfl inX10 (by decide) tw_830 (Or.inl rfl) rfl ?_
    refine xw_iconst (v := 1) dX10_part_48 (by decide) ?_
    refine xw_iald dX10_part_49 (hR.2.1 39 rfl) in1 ?_
    rw [cl1]
    rw [h0.2.1, k1.1]
    refine xw_iconst (v := 1) dX10_part_50 (by decide) ?_
    refine xw_icmp_ne (tgt := 63) dX10_part_51 (by decide) (fun d2 => ?_) (fun d2 => ?_)
    · have hy1 : ¬ y.1 = 1 := d2
      refine xw_ldc2 (v := 4) tw_990 dX10_part_63 ?_
      exact xw_pc rfl (tail 4 (by rw [if_neg hy1]))
    · have hy1 : y.1 = 1 := d2
      refine xw_aload_n dX10_part_54 rfl rfl ?_
      refine xw_get (ci := 11) (k := 40) (v := .ref (B 40)) dX10_part_55 hR.1 rfl inX10 (by decide) tw_831 (Or.inl rfl) rfl ?_
      refine xw_iconst (v := 1) dX10_part_58 (by decide) ?_
      refine xw_lald dX10_part_59 (hR.2.2.1 40 rfl) in1 ?_
      rw [cl1]
      rw [h0.2.2, k1.2]
      refine xw_goto (tgt := 66) dX10_part_60 (by decide) ?_
      exact xw_pc rfl (tail y.2 (by rw [if_pos hy1, ← hy1]))
  · have hy0 : y.1 = 0 := d1
    refine xw_aload_n dX10_part_9 rfl rfl ?_
    refine xw_iload_n dX10_part_10 rfl rfl ?_
    refine xw_aload_n dX10_part_11 rfl rfl ?_
    refine xw_get (ci := 11) (k := 40) (v := .ref (B 40)) dX10_part_12 hR.1 rfl inX10 (by decide) tw_831 (Or.inl rfl) rfl ?_
    refine xw_iconst (v := 1) dX10_part_15 (by decide) ?_
    refine xw_pc (pc2 := 16) rfl ?_
    refine xw_lald dX10_part_16 (hR.2.2.1 40 rfl) in1 ?_
    rw [cl1]
    rw [h0.2.2, k1.2]
    refine xw_lconst (v := 0) dX10_part_17 (by decide) ?_
    refine xw_lcmp dX10_part_18 ?_
    refine xw_if_ne (tgt := 26) dX10_part_19 (by decide) (fun d2 => ?_) (fun d2 => ?_)
    · have hz : ¬ y.2 = 0 := fun z => d2 ((lg_cmp_eq _ _).mpr z)
      refine xw_iconst (v := 1) dX10_part_26 (by decide) ?_
      refine xw_iload_n dX10_part_27 rfl rfl ?_
      refine xw_aload_n dX10_part_28 rfl rfl ?_
      refine xw_get (ci := 11) (k := 39) (v := .ref (B 39)) dX10_part_29 hR.1 rfl inX10 (by decide) tw_830 (Or.inl rfl) rfl ?_
      refine xw_iconst (v := 0) dX10_part_32 (by decide) ?_
      refine xw_iald dX10_part_33 (hR.2.1 39 rfl) in0 ?_
      rw [cl0]
      rw [h0.2.1, k0.1]
      refine xw_aload_n dX10_part_34 rfl rfl ?_
      refine xw_get (ci := 11) (k := 40) (v := .ref (B 40)) dX10_part_35 hR.1 rfl inX10 (by decide) tw_831 (Or.inl rfl) rfl ?_
      refine xw_iconst (v := 0) dX10_part_38 (by decide) ?_
      refine xw_lald dX10_part_39 (hR.2.2.1 40 rfl) in0 ?_
      rw [cl0]
      rw [h0.2.2, k0.2]
      have q1 := ct_msend (G := G) (i := i) (s := 1) (c := c) (v := x) h hG hi hc (by decide) hx
      refine xw_callV (q2 := mX10_send) (n2 := 5) (ci := 11) (Bs := [.int (nI i), .int (nI 1), .int (nI c), .int x.1, .long x.2]) (rest := []) (q1) dX10_part_40 rfl (o_at hR.1) rfl rfl tw_969 tw_971 tw_25 tw_47 tw_972 (by decide +kernel) rfl (Nat.le_of_ble_eq_true rfl) (Nat.le_of_ble_eq_true rfl) (Nat.le_of_ble_eq_true rfl) (fun rr M1 hr hle1 => ?_)
      obtain ⟨rfl, hR1, hE1⟩ := hr
      rw [send_s (by decide)] at hR1
      rw [show choose σ i c x y = giveS σ i 1 c x by unfold choose; rw [if_pos hy0, if_neg hz]]
      exact xw_vret rfl dX10_part_43 ⟨rfl, hR1, hE1⟩
    · have hz : y.2 = 0 := (lg_cmp_eq _ _).mp d2
      refine xw_iconst (v := 0) dX10_part_22 (by decide) ?_
      refine xw_goto (tgt := 27) dX10_part_23 (by decide) ?_
      refine xw_iload_n dX10_part_27 rfl rfl ?_
      refine xw_aload_n dX10_part_28 rfl rfl ?_
      refine xw_get (ci := 11) (k := 39) (v := .ref (B 39)) dX10_part_29 hR.1 rfl inX10 (by decide) tw_830 (Or.inl rfl) rfl ?_
      refine xw_iconst (v := 0) dX10_part_32 (by decide) ?_
      refine xw_pc (pc2 := 33) rfl ?_
      refine xw_iald dX10_part_33 (hR.2.1 39 rfl) in0 ?_
      rw [cl0]
      rw [h0.2.1, k0.1]
      refine xw_aload_n dX10_part_34 rfl rfl ?_
      refine xw_get (ci := 11) (k := 40) (v := .ref (B 40)) dX10_part_35 hR.1 rfl inX10 (by decide) tw_831 (Or.inl rfl) rfl ?_
      refine xw_iconst (v := 0) dX10_part_38 (by decide) ?_
      refine xw_lald dX10_part_39 (hR.2.2.1 40 rfl) in0 ?_
      rw [cl0]
      rw [h0.2.2, k0.2]
      have q1 := ct_msend (G := G) (i := i) (s := 0) (c := c) (v := x) h hG hi hc (by decide) hx
      refine xw_callV (q2 := mX10_send) (n2 := 5) (ci := 11) (Bs := [.int (nI i), .int (nI 0), .int (nI c), .int x.1, .long x.2]) (rest := []) (q1) dX10_part_40 rfl (o_at hR.1) rfl rfl tw_969 tw_971 tw_25 tw_47 tw_972 (by decide +kernel) rfl (Nat.le_of_ble_eq_true rfl) (Nat.le_of_ble_eq_true rfl) (Nat.le_of_ble_eq_true rfl) (fun rr M1 hr hle1 => ?_)
      obtain ⟨rfl, hR1, hE1⟩ := hr
      rw [send_s (by decide)] at hR1
      rw [show choose σ i c x y = giveS σ i 0 c x by unfold choose; rw [if_pos hy0, if_pos hz]]
      exact xw_vret rfl dX10_part_43 ⟨rfl, hR1, hE1⟩
theorem GS.cn {t : T3} {d : Nat} (hG : GS σ) (ht : ∃ k, k < (sC σ).length ∧ t.1 = nI k) (hd : (cnum (sC σ) t).1 = some d) : GS (uC σ (cnum (sC σ) t).2) ∧ d < (sC (uC σ (cnum (sC σ) t).2)).length := ⟨hG.ctx ht, by rw [sC_uC]; exact (List.getElem?_eq_some_iff.mp (cnum_at hd)).1⟩
theorem ct_mturn (h : RM M m B σ th K V) (hG : GS σ) (hN : GN σ) (hi : i < (sN σ).length) (hc : c < (sC σ).length) (ho : 8 ≤ (nd σ i).1 ∧ (nd σ i).1 ≤ 11) (hx : GV (sA σ) x) (k0 : K 0 = x.1 ∧ V 0 = x.2) : CT G 4 103 mX10_turn [.ref m, .int (nI i), .int (nI c)] M (fun r M1 => r = none ∧ RM M1 m B (move σ i c x) th K V ∧ EF M M1 m B) := by
  obtain ⟨P, hP⟩ : ∃ P : Option Value → hx_S → Prop, P = (fun r M1 => r = none ∧ RM M1 m B (move σ i c x) th K V ∧ EF M M1 m B) := ⟨_, rfl⟩
  rw [← hP]
  obtain ⟨ρ, T, hR, h0, hAb, -⟩ := id h
  have h40 := hG.1
  have h151 := hG.2.2.1.2.1
  have in0 : vp_in (nI 0) 3 := vp_in_nI (by decide) (by decide)
  have ini : vp_in (nI i) 40 := vp_in_nI (by omega) (by decide)
  have inc : vp_in (nI c) 151 := vp_in_nI (by omega) (by decide)
  have i31 : i < 2 ^ 31 := by omega
  have c31 : c < 2 ^ 31 := by omega
  obtain ⟨n1, n2, -⟩ := hAb.1.2 i _ (nd_at hi)
  obtain ⟨e1, e2, e3⟩ := hAb.2.1.2 c _ (ct3_at hc)
  -- behind the choice of the context
  have some_ : ∀ (M' : hx_S) (L : List T3) (d : Nat), tgt σ i c = (some d, L) → RM M' m B (uC σ L) th K V → GS (uC σ L) → d < L.length → EF M M' m B → XW G 4 103 mX10_turn [.ref m, .int (nI i), .int (nI c)] M P M' 88 [(4, .int (nI d)), (3, .int (nI (nd σ i).1)), (0, .ref m), (1, .int (nI i)), (2, .int (nI c))] [] := by
    intro M' L d htg hRM hG' hd hE
    obtain ⟨ρ', T', hR', h0', -⟩ := id hRM
    have hL := hG'.2.2.1.2.1
    rw [sC_uC] at hL
    refine xw_iload dX10_turn_88 rfl ?_
    refine xw_iconst (v := (-1)) dX10_turn_90 (by decide) ?_
    refine xw_icmp_eq (tgt := 114) dX10_turn_91 (by decide) (fun zz => absurd zz (nI_m1 (show d < 2 ^ 31 by omega))) (fun _ => ?_)
    refine xw_aload_n dX10_turn_94 rfl rfl ?_
    refine xw_iload_n dX10_turn_95 rfl rfl ?_
    refine xw_iconst (v := 0) dX10_turn_96 (by decide) ?_
    refine xw_iload dX10_turn_97 rfl ?_
    refine xw_aload_n dX10_turn_99 rfl rfl ?_
    refine xw_get (ci := 11) (k := 39) (v := .ref (B 39)) dX10_turn_100 hR'.1 rfl inX10 (by decide) tw_830 (Or.inl rfl) rfl ?_
    refine xw_iconst (v := 0) dX10_turn_103 (by decide) ?_
    refine xw_iald dX10_turn_104 (hR'.2.1 39 rfl) in0 ?_
    rw [cl0]
    rw [h0'.2.1, k0.1]
    refine xw_aload_n dX10_turn_105 rfl rfl ?_
    refine xw_get (ci := 11) (k := 40) (v := .ref (B 40)) dX10_turn_106 hR'.1 rfl inX10 (by decide) tw_831 (Or.inl rfl) rfl ?_
    refine xw_iconst (v := 0) dX10_turn_109 (by decide) ?_
    refine xw_pc (pc2 := 110) rfl ?_
    refine xw_lald dX10_turn_110 (hR'.2.2.1 40 rfl) in0 ?_
    rw [cl0]
    rw [h0'.2.2, k0.2]
    have q1 := ct_msend (G := G) (i := i) (s := 0) (c := d) (v := x) hRM hG' (by rw [sN_uC]; exact hi) (by rw [sC_uC]; exact hd) (by decide) (by rw [sA_uC]; exact hx)
    refine xw_callV (q2 := mX10_send) (n2 := 5) (ci := 11) (Bs := [.int (nI i), .int (nI 0), .int (nI d), .int x.1, .long x.2]) (rest := []) (q1) dX10_turn_111 rfl (o_at hR'.1) rfl rfl tw_969 tw_971 tw_25 tw_47 tw_972 (by decide +kernel) rfl (Nat.le_of_ble_eq_true rfl) (Nat.le_of_ble_eq_true rfl) (Nat.le_of_ble_eq_true rfl) (fun rr M1 hr hle1 => ?_)
    obtain ⟨rfl, hR1, hE1⟩ := hr
    rw [send_0 (hN.cg (sN_uC _ _)) (by rw [sN_uC]; exact hi) (by rw [nd_cg (sN_uC σ L)]; omega)] at hR1
    rw [hP]
    have hmv : move σ i c x = give (uC σ L) i d x := by unfold move; rw [htg]; rfl
    exact xw_vret rfl dX10_turn_114 ⟨rfl, by rw [hmv]; exact hR1, hE.tr hE1⟩
  have none_ : ∀ (M' : hx_S) (L : List T3), tgt σ i c = (none, L) → RM M' m B (uTr (uC σ L) 2) th K V → EF M M' m B → XW G 4 103 mX10_turn [.ref m, .int (nI i), .int (nI c)] M P M' 88 [(4, .int (-1)), (3, .int (nI (nd σ i).1)), (0, .ref m), (1, .int (nI i)), (2, .int (nI c))] [] := by
    intro M' L htg hRM hE
    refine xw_iload dX10_turn_88 rfl ?_
    refine xw_iconst (v := (-1)) dX10_turn_90 (by decide) ?_
    refine xw_icmp_eq (tgt := 114) dX10_turn_91 (by decide) (fun _ => ?_) (fun zz => absurd rfl zz)
    rw [hP]
    have hmv : move σ i c x = uTr (uC σ L) 2 := by unfold move; rw [htg]; rfl
    exact xw_vret rfl dX10_turn_114 ⟨rfl, by rw [hmv]; exact hRM, hE⟩
  have asked : ∀ (M' : hx_S) (r : Option Value) (t : T3) (L0 : List (Nat × Value)) (pc : Nat), True := fun _ _ _ _ _ => trivial
  refine ct_go (by decide +kernel) (Nat.le_of_ble_eq_true rfl) (L := [(0, .ref m), (1, .int (nI i)), (2, .int (nI c))]) rfl ?_
  refine xw_aload_n dX10_turn_0 rfl rfl ?_
  refine xw_get (ci := 11) (k := 2) (v := .ref (B 2)) dX10_turn_1 hR.1 rfl inX10 (by decide) tw_793 (Or.inl rfl) rfl ?_
  refine xw_iload_n dX10_turn_4 rfl rfl ?_
  refine xw_iald dX10_turn_5 (hR.2.1 2 rfl) ini ?_
  rw [nI_clamp i31]
  rw [n1]
  refine xw_istore_n (L2 := [(3, .int (nI (nd σ i).1)), (0, .ref m), (1, .int (nI i)), (2, .int (nI c))]) dX10_turn_6 rfl (by decide) rfl ?_
  refine xw_iconst (v := 0) dX10_turn_7 (by decide) ?_
  refine xw_istore (L2 := [(4, .int 0), (3, .int (nI (nd σ i).1)), (0, .ref m), (1, .int (nI i)), (2, .int (nI c))]) dX10_turn_8 (by decide) rfl ?_
  refine xw_iload_n dX10_turn_10 rfl rfl ?_
  refine xw_bipush (v := 8) dX10_turn_11 (by decide) ?_
  refine xw_icmp_ne (tgt := 33) dX10_turn_13 (by decide) (fun d1 => ?_) (fun d1 => ?_)
  · have o8 : ¬ (nd σ i).1 = 8 := fun z => d1 (by rw [z]; rfl)
    refine xw_iload_n dX10_turn_33 rfl rfl ?_
    refine xw_if_le (tgt := 88) dX10_turn_34 (by decide) (fun d2 => ?_) (fun d2 => ?_)
    · have c0 : c = 0 := Nat.eq_zero_of_not_pos (fun z => absurd d2 (show ¬ nI c ≤ nI 0 from nI_ge z (by omega)))
      have htg : tgt σ i c = (some 0, sC σ) := by
        unfold tgt
        simp [o8, c0]
      exact xw_pc rfl (some_ M (sC σ) 0 htg h hG hG.2.2.1.1 (EF.rf M m B))
    · have c0 : ¬ c = 0 := fun z => d2 (show nI c ≤ nI 0 from nI_le (by omega) (by decide))
      obtain ⟨ko, hko, hke⟩ := hG.out hc c0
      refine xw_iload_n dX10_turn_37 rfl rfl ?_
      refine xw_bipush (v := 11) dX10_turn_38 (by decide) ?_
      refine xw_pc (pc2 := 40) rfl ?_
      refine xw_icmp_ne (tgt := 52) dX10_turn_40 (by decide) (fun d3 => ?_) (fun d3 => ?_)
      · have o11 : ¬ (nd σ i).1 = 11 := fun z => d3 (by rw [z]; rfl)
        refine xw_aload_n dX10_turn_52 rfl rfl ?_
        refine xw_aload_n dX10_turn_53 rfl rfl ?_
        refine xw_get (ci := 11) (k := 10) (v := .ref (B 10)) dX10_turn_54 hR.1 rfl inX10 (by decide) tw_801 (Or.inl rfl) rfl ?_
        refine xw_iload_n dX10_turn_57 rfl rfl ?_
        refine xw_iald dX10_turn_58 (hR.2.1 10 rfl) inc ?_
        rw [nI_clamp c31]
        rw [e1]
        refine xw_aload_n dX10_turn_59 rfl rfl ?_
        refine xw_get (ci := 11) (k := 11) (v := .ref (B 11)) dX10_turn_60 hR.1 rfl inX10 (by decide) tw_802 (Or.inl rfl) rfl ?_
        refine xw_iload_n dX10_turn_63 rfl rfl ?_
        refine xw_iald dX10_turn_64 (hR.2.1 11 rfl) inc ?_
        rw [nI_clamp c31]
        rw [e2]
        refine xw_iload_n dX10_turn_65 rfl rfl ?_
        refine xw_bipush (v := 9) dX10_turn_66 (by decide) ?_
        refine xw_icmp_ne (tgt := 82) dX10_turn_68 (by decide) (fun d4 => ?_) (fun d4 => ?_)
        · have o9 : ¬ (nd σ i).1 = 9 := fun z => d4 (by rw [z]; rfl)
          have htg : tgt σ i c = cnum (sC σ) ((ct3 σ c).1, (ct3 σ c).2.1, 0) := by unfold tgt; rw [if_neg o8, if_neg o9, if_pos (by omega), if_neg c0]
          refine xw_iconst (v := 0) dX10_turn_82 (by decide) ?_
          refine xw_callV (q2 := mX10_contextOf) (n2 := 3) (ci := 11) (Bs := [.int (ct3 σ c).1, .int (ct3 σ c).2.1, .int 0]) (rest := []) (ct_mcontextOf (o := (ct3 σ c).1) (s := (ct3 σ c).2.1) (r0 := 0) h hG) dX10_turn_83 rfl (o_at hR.1) rfl rfl tw_995 tw_997 tw_31 tw_47 tw_998 (by decide +kernel) rfl (Nat.le_of_ble_eq_true rfl) (Nat.le_of_ble_eq_true rfl) (Nat.le_of_ble_eq_true rfl) (fun rr M1 hr hle1 => ?_)
          obtain ⟨hq, hE1⟩ := hr
          rcases hq with ⟨hn, rfl, hRM1⟩ | ⟨d, hn, rfl, hRM1⟩
          · skip
            refine xw_istore (L2 := [(4, .int (-1)), (3, .int (nI (nd σ i).1)), (0, .ref m), (1, .int (nI i)), (2, .int (nI c))]) dX10_turn_86 (by decide) rfl ?_
            exact xw_pc rfl (none_ M1 _ (htg.trans (Prod.ext hn rfl)) hRM1 hE1)
          · obtain ⟨hG1, hd1⟩ := hG.cn (t := ((ct3 σ c).1, (ct3 σ c).2.1, 0)) ⟨ko, hko, hke⟩ hn
            rw [sC_uC] at hd1
            refine xw_istore (L2 := [(4, .int (nI d)), (3, .int (nI (nd σ i).1)), (0, .ref m), (1, .int (nI i)), (2, .int (nI c))]) dX10_turn_86 (by decide) rfl ?_
            exact xw_pc rfl (some_ M1 _ d (htg.trans (Prod.ext hn rfl)) hRM1 hG1 hd1 hE1)
        · have o9 : (nd σ i).1 = 9 := (nI_eq (by omega) (by decide)).mp (show nI (nd σ i).1 = nI 9 from d4)
          have htg : tgt σ i c = cnum (sC σ) ((ct3 σ c).1, (ct3 σ c).2.1, (ct3 σ c).2.2 + 1) := by unfold tgt; rw [if_neg o8, if_pos o9, if_neg c0]
          refine xw_aload_n dX10_turn_71 rfl rfl ?_
          refine xw_get (ci := 11) (k := 12) (v := .ref (B 12)) dX10_turn_72 hR.1 rfl inX10 (by decide) tw_803 (Or.inl rfl) rfl ?_
          refine xw_iload_n dX10_turn_75 rfl rfl ?_
          refine xw_pc (pc2 := 76) rfl ?_
          refine xw_iald dX10_turn_76 (hR.2.1 12 rfl) inc ?_
          rw [nI_clamp c31]
          rw [e3]
          refine xw_iconst (v := 1) dX10_turn_77 (by decide) ?_
          refine xw_iadd dX10_turn_78 ?_
          refine xw_goto (tgt := 83) dX10_turn_79 (by decide) ?_
          refine xw_callV (q2 := mX10_contextOf) (n2 := 3) (ci := 11) (Bs := [.int (ct3 σ c).1, .int (ct3 σ c).2.1, .int (((ct3 σ c).2.2) + 1)]) (rest := []) (ct_mcontextOf (o := (ct3 σ c).1) (s := (ct3 σ c).2.1) (r0 := (ct3 σ c).2.2 + 1) h hG) dX10_turn_83 rfl (o_at hR.1) rfl rfl tw_995 tw_997 tw_31 tw_47 tw_998 (by decide +kernel) rfl (Nat.le_of_ble_eq_true rfl) (Nat.le_of_ble_eq_true rfl) (Nat.le_of_ble_eq_true rfl) (fun rr M1 hr hle1 => ?_)
          obtain ⟨hq, hE1⟩ := hr
          rcases hq with ⟨hn, rfl, hRM1⟩ | ⟨d, hn, rfl, hRM1⟩
          · skip
            refine xw_istore (L2 := [(4, .int (-1)), (3, .int (nI (nd σ i).1)), (0, .ref m), (1, .int (nI i)), (2, .int (nI c))]) dX10_turn_86 (by decide) rfl ?_
            exact xw_pc rfl (none_ M1 _ (htg.trans (Prod.ext hn rfl)) hRM1 hE1)
          · obtain ⟨hG1, hd1⟩ := hG.cn (t := ((ct3 σ c).1, (ct3 σ c).2.1, (ct3 σ c).2.2 + 1)) ⟨ko, hko, hke⟩ hn
            rw [sC_uC] at hd1
            refine xw_istore (L2 := [(4, .int (nI d)), (3, .int (nI (nd σ i).1)), (0, .ref m), (1, .int (nI i)), (2, .int (nI c))]) dX10_turn_86 (by decide) rfl ?_
            exact xw_pc rfl (some_ M1 _ d (htg.trans (Prod.ext hn rfl)) hRM1 hG1 hd1 hE1)
      · have o11 : (nd σ i).1 = 11 := (nI_eq (by omega) (by decide)).mp (show nI (nd σ i).1 = nI 11 from d3)
        have htg : tgt σ i c = (some ko, sC σ) := by unfold tgt; rw [if_neg o8, if_neg (by omega), if_neg (by omega), if_neg c0, hke, nI_clamp (by omega)]
        refine xw_aload_n dX10_turn_43 rfl rfl ?_
        refine xw_get (ci := 11) (k := 10) (v := .ref (B 10)) dX10_turn_44 hR.1 rfl inX10 (by decide) tw_801 (Or.inl rfl) rfl ?_
        refine xw_iload_n dX10_turn_47 rfl rfl ?_
        refine xw_iald dX10_turn_48 (hR.2.1 10 rfl) inc ?_
        rw [nI_clamp c31]
        rw [e1, hke]
        refine xw_goto (tgt := 86) dX10_turn_49 (by decide) ?_
        refine xw_istore (L2 := [(4, .int (nI ko)), (3, .int (nI (nd σ i).1)), (0, .ref m), (1, .int (nI i)), (2, .int (nI c))]) dX10_turn_86 (by decide) rfl ?_
        exact xw_pc rfl (some_ M (sC σ) ko htg h hG hko (EF.rf M m B))
  · have o8 : (nd σ i).1 = 8 := (nI_eq (by omega) (by decide)).mp (show nI (nd σ i).1 = nI 8 from d1)
    have htg : tgt σ i c = cnum (sC σ) (nI c, (nd σ i).2.1, 0) := by unfold tgt; rw [if_pos o8]
    refine xw_aload_n dX10_turn_16 rfl rfl ?_
    refine xw_iload_n dX10_turn_17 rfl rfl ?_
    refine xw_aload_n dX10_turn_18 rfl rfl ?_
    refine xw_get (ci := 11) (k := 3) (v := .ref (B 3)) dX10_turn_19 hR.1 rfl inX10 (by decide) tw_794 (Or.inl rfl) rfl ?_
    refine xw_iload_n dX10_turn_22 rfl rfl ?_
    refine xw_pc (pc2 := 23) rfl ?_
    refine xw_iald dX10_turn_23 (hR.2.1 3 rfl) ini ?_
    rw [nI_clamp i31]
    rw [n2]
    refine xw_iconst (v := 0) dX10_turn_24 (by decide) ?_
    refine xw_callV (q2 := mX10_contextOf) (n2 := 3) (ci := 11) (Bs := [.int (nI c), .int (nd σ i).2.1, .int 0]) (rest := []) (ct_mcontextOf (o := nI c) (s := (nd σ i).2.1) (r0 := 0) h hG) dX10_turn_25 rfl (o_at hR.1) rfl rfl tw_995 tw_997 tw_31 tw_47 tw_998 (by decide +kernel) rfl (Nat.le_of_ble_eq_true rfl) (Nat.le_of_ble_eq_true rfl) (Nat.le_of_ble_eq_true rfl) (fun rr M1 hr hle1 => ?_)
    obtain ⟨hq, hE1⟩ := hr
    rcases hq with ⟨hn, rfl, hRM1⟩ | ⟨d, hn, rfl, hRM1⟩
    · skip
      refine xw_istore (L2 := [(4, .int (-1)), (3, .int (nI (nd σ i).1)), (0, .ref m), (1, .int (nI i)), (2, .int (nI c))]) dX10_turn_28 (by decide) rfl ?_
      refine xw_goto (tgt := 88) dX10_turn_30 (by decide) ?_
      exact xw_pc rfl (none_ M1 _ (htg.trans (Prod.ext hn rfl)) hRM1 hE1)
    · obtain ⟨hG1, hd1⟩ := hG.cn (t := (nI c, (nd σ i).2.1, 0)) ⟨c, hc, rfl⟩ hn
      rw [sC_uC] at hd1
      refine xw_istore (L2 := [(4, .int (nI d)), (3, .int (nI (nd σ i).1)), (0, .ref m), (1, .int (nI i)), (2, .int (nI c))]) dX10_turn_28 (by decide) rfl ?_
      refine xw_goto (tgt := 88) dX10_turn_30 (by decide) ?_
      exact xw_pc rfl (some_ M1 _ d (htg.trans (Prod.ext hn rfl)) hRM1 hG1 hd1 hE1)
end TURN
