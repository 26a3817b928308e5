/-! THE CLASS: the calls that throw -/
theorem at_A : ∀ w ∈ vx_atS "TokenHouse" 62 xA xUp, w ∈ TW ∨ w ∈ xB := by
  have h : (vx_atS "TokenHouse" 62 xA xUp).all (fun w => decide (w ∈ TW) || decide (w ∈ xB)) = true := by decide +kernel
  intro w hw
  have := List.all_eq_true.mp h w hw
  simpa using this
theorem at_S : ∀ w ∈ vx_atS "TokenHouse" 77 xS xUp, w ∈ TW ∨ w ∈ xB := by
  have h : (vx_atS "TokenHouse" 77 xS xUp).all (fun w => decide (w ∈ TW) || decide (w ∈ xB)) = true := by decide +kernel
  intro w hw
  have := List.all_eq_true.mp h w hw
  simpa using this
theorem at_N : ∀ w ∈ vx_atX "TokenHouse" 175 xN 13 prog_30_method_4_code xUp, w ∈ TW ∨ w ∈ xB := by
  have h : (vx_atX "TokenHouse" 175 xN 13 prog_30_method_4_code xUp).all (fun w => decide (w ∈ TW) || decide (w ∈ xB)) = true := by decide +kernel
  intro w hw
  have := List.all_eq_true.mp h w hw
  simpa using this
theorem nx0 : decode prog_30_method_4_code 0 = .ok (.aload_n 0, 1) := by decide +kernel
theorem nx1 : decode prog_30_method_4_code 1 = .ok (.aload_n 1, 1) := by decide +kernel
theorem nx2 : decode prog_30_method_4_code 2 = .ok (.invokespecial 13, 3) := by decide +kernel
theorem nx5 : decode prog_30_method_4_code 5 = .ok (.return_, 1) := by decide +kernel
section THROWN
variable {G : hx_G} {M : hx_S} {A : hA} {Γ : hG} {σ : hs_S} {γ : hf_S} {b : Nat}
theorem i2l_T (a : Int32) : a.toInt64.toInt = a.toInt := by first | exact Int32.toInt_toInt64 a | simp
theorem i2l_lt {a : Int32} {n : Nat} (hn : n < 2 ^ 31) : a.toInt64 < lN n ↔ a < nI n := by
  have e1 : (lN n).toInt = (n : Int) := pk_lT (by omega)
  have e2 : (nI n).toInt = (n : Int) := by unfold nI; exact Int32.toInt_ofNat_small (by omega)
  rw [Int64.lt_iff_toInt_lt, Int32.lt_iff_toInt_lt, i2l_T, e1, e2]
theorem i2l_0 {a : Int32} : a.toInt64 < 0 ↔ a < 0 := i2l_lt (n := 0) (by decide)
theorem i2l_c (a : Int32) : a.toInt64.toNatClampNeg = a.toNatClampNeg := by unfold Int64.toNatClampNeg Int32.toNatClampNeg; rw [i2l_T]
theorem cix_eq (hG : GS σ) (a i : Int32) : cix σ a.toInt64 i.toInt64 = if (¬ a < 0 ∧ a < nI (sA σ)) ∧ (¬ i < 0 ∧ i < nI (sLe σ a.toNatClampNeg)) then some (8 * a.toNatClampNeg + i.toNatClampNeg) else none := by
  unfold cix
  have hA := hG.2.2.2.1.1
  simp only [i2l_0, i2l_c, i2l_lt (show sA σ < 2 ^ 31 by omega)]
  by_cases h1 : ¬ a < 0 ∧ a < nI (sA σ)
  · obtain ⟨j, hj, rfl, -⟩ := pk_mu h1.1 (fun z => absurd h1.2 (Int32.not_lt.mpr z)) (show sA σ < 2 ^ 31 by omega)
    have h8 := hG.2.2.2.1.2.1 j hj
    simp only [nI_clamp (show j < 2 ^ 31 by omega), i2l_lt (show sLe σ j < 2 ^ 31 by omega)]
    by_cases h2 : ¬ i < 0 ∧ i < nI (sLe σ j)
    · rw [if_pos ⟨h1.1, h1.2, h2⟩, if_pos ⟨h1, h2⟩]
    · rw [if_neg (fun z => h2 z.2.2), if_neg (fun z => h2 z.2)]
  · rw [if_neg (fun z => h1 ⟨z.1, z.2.1⟩), if_neg (fun z => h1 z.1)]
theorem lt_18 {a : Int32} (h : 17 < a) : ¬ a < 18 := by
  rw [Int32.lt_iff_toInt_lt] at h ⊢
  have e1 : (17 : Int32).toInt = 17 := rfl
  have e2 : (18 : Int32).toInt = 18 := rfl
  omega
theorem ctx_nodeA (hX : GX G) {a nn : Int32} {t : Nat} (ha : a < 0 ∨ 17 < a) : CTX G 7 157 mX9_node [.ref t, .int a, .int nn] M xA (fun M1 => M1 = grow M 6 99) := by
  refine ctx_go (by decide +kernel) (Nat.le_of_ble_eq_true rfl) (L := [(0, .ref t), (1, .int a), (2, .int nn)]) rfl ?_
  refine xw_iload_n dX9_node_0 rfl rfl ?_
  refine xw_if_lt (tgt := 12) dX9_node_1 (by decide) (fun z1 => ?_) (fun z1 => ?_)
  · skip
    exact xw_pc (pc2 := 12) rfl (xw_throw (ik := 58) (is := 60) (ic := 62) (text := "no such OP") hX rfl (by decide) rfl tw_478 tw_51 at_A dX9_node_12 dX9_node_15 dX9_node_16 dX9_node_18 dX9_node_21 (by decide) (by decide) rfl)
  · skip
    refine xw_iload_n dX9_node_4 rfl rfl ?_
    refine xw_gets (t := gP G) tw_476 dX9_node_5 (fun s hks => ks_P hks) ?_
    refine xw_tlen dX9_node_8 (fun s hks => ks_P hks) ?_
    refine xw_icmp_lt (tgt := 22) dX9_node_9 (by decide) (fun zz => absurd zz (fun z => by rcases ha with w | w; exact z1 w; exact absurd z (lt_18 w))) (fun _ => ?_)
    exact xw_pc (pc2 := 12) rfl (xw_throw (ik := 58) (is := 60) (ic := 62) (text := "no such OP") hX rfl (by decide) rfl tw_478 tw_51 at_A dX9_node_12 dX9_node_15 dX9_node_16 dX9_node_18 dX9_node_21 (by decide) (by decide) rfl)
theorem ctx_nodeB (hX : GX G) (h : Rep M A Γ σ γ b) {o : Nat} {nn : Int32} (ho : o < 18) (hl : (sN σ).length = 40 ∨ sB σ ≠ 0) : CTX G 7 157 mX9_node [.ref (aT A), .int (nI o), .int nn] M xS (fun M1 => M1 = grow M 6 99) := by
  refine ctx_go (by decide +kernel) (Nat.le_of_ble_eq_true rfl) (L := [(0, .ref (aT A)), (1, .int (nI o)), (2, .int nn)]) rfl ?_
  have hH := h.hdr
  have h40 := h.2.2.1
  have hB1 := h.2.2.2.2.2.2.2.2.2.2.1.2.2.2.2.2
  obtain ⟨⟨y, hy⟩, hy2, hy3⟩ := h.2.1.1
  have hlen : ((List.range (sN σ).length).map (nad Γ)).length = (sN σ).length := by simp
  refine xw_iload_n dX9_node_0 rfl rfl ?_
  refine xw_if_lt (tgt := 12) dX9_node_1 (by decide) (fun zz => absurd zz (nI_pos (by omega))) (fun _ => ?_)
  refine xw_iload_n dX9_node_4 rfl rfl ?_
  refine xw_gets (t := gP G) tw_476 dX9_node_5 (fun s hks => ks_P hks) ?_
  refine xw_tlen dX9_node_8 (fun s hks => ks_P hks) ?_
  refine xw_icmp_lt (tgt := 22) dX9_node_9 (by decide) (fun _ => ?_) (fun zz => absurd (show nI o < nI 18 from nI_lt ho (by decide)) zz)
  refine xw_aload_n dX9_node_22 rfl rfl ?_
  refine xw_get (ci := 10) (k := 1) (v := .ref (aN A)) dX9_node_23 hH rfl inX9 (by decide) tw_181 (Or.inl rfl) rfl ?_
  refine xw_callV (q2 := mJx4a65c_size_8abf5) (n2 := 0) (ci := 0) (Bs := []) (rest := []) (ct_size hy) dX9_node_26 rfl (q_at hy) rfl rfl tw_228 tw_229 tw_230 tw_43 tw_231 (by decide +kernel) rfl (Nat.le_of_ble_eq_true rfl) (Nat.le_of_ble_eq_true rfl) (Nat.le_of_ble_eq_true rfl) (fun rr M1 hr hle1 => ?_)
  obtain ⟨rfl, hM1⟩ := hr
  obtain rfl := hM1.symm
  rw [show nI ((List.range (sN σ).length).map (nad Γ), y).1.length = nI (sN σ).length from congrArg nI hlen]
  refine xw_bipush (v := 40) dX9_node_29 (by decide) ?_
  by_cases hq : (sN σ).length = 40
  · skip
    refine xw_icmp_ge (tgt := 41) dX9_node_31 (by decide) (fun _ => ?_) (fun zz => absurd (show nI 40 ≤ nI (sN σ).length by rw [hq]; exact Int32.le_refl _) zz)
    exact xw_pc (pc2 := 41) rfl (xw_throw (ik := 73) (is := 75) (ic := 77) (text := "no NODE more now") hX rfl (by decide) rfl tw_546 tw_52 at_S dX9_node_41 dX9_node_44 dX9_node_45 dX9_node_47 dX9_node_50 (by decide) (by decide) rfl)
  · skip
    refine xw_icmp_ge (tgt := 41) dX9_node_31 (by decide) (fun zz => absurd zz (show ¬ nI 40 ≤ nI (sN σ).length from nI_ge (by omega) (by decide))) (fun _ => ?_)
    refine xw_aload_n dX9_node_34 rfl rfl ?_
    refine xw_get (ci := 10) (k := 12) (v := .int (nI (sB σ))) dX9_node_35 hH rfl inX9 (by decide) tw_192 (Or.inl rfl) rfl ?_
    have hB2 : sB σ = 1 := by omega
    refine xw_if_eq (tgt := 51) dX9_node_38 (by decide) (fun zz => absurd zz (show ¬ nI (sB σ) = 0 by rw [hB2]; decide)) (fun _ => ?_)
    exact xw_pc (pc2 := 41) rfl (xw_throw (ik := 73) (is := 75) (ic := 77) (text := "no NODE more now") hX rfl (by decide) rfl tw_546 tw_52 at_S dX9_node_41 dX9_node_44 dX9_node_45 dX9_node_47 dX9_node_50 (by decide) (by decide) rfl)
theorem ctx_runA (hX : GX G) {n : Int32} {p : Int64} {t : Nat} (hn : n < 1 ∨ 500 < n) : CTX G 12 285 mX9_run [.ref t, .int n, .long p] M xA (fun M1 => M1 = grow M 6 99) := by
  refine ctx_go (by decide +kernel) (Nat.le_of_ble_eq_true rfl) (L := [(0, .ref t), (1, .int n), (2, .long p)]) rfl ?_
  refine xw_iload_n dX9_run_0 rfl rfl ?_
  refine xw_iconst (v := 1) dX9_run_1 (by decide) ?_
  refine xw_icmp_lt (tgt := 12) dX9_run_2 (by decide) (fun z1 => ?_) (fun z1 => ?_)
  · skip
    exact xw_pc (pc2 := 12) rfl (xw_throw (ik := 58) (is := 116) (ic := 62) (text := "n is not 1 .. 500") hX rfl (by decide) rfl tw_478 tw_51 at_A dX9_run_12 dX9_run_15 dX9_run_16 dX9_run_18 dX9_run_21 (by decide) (by decide) rfl)
  · skip
    refine xw_iload_n dX9_run_5 rfl rfl ?_
    refine xw_sipush (v := 500) dX9_run_6 (by decide) ?_
    refine xw_pc (pc2 := 9) rfl ?_
    refine xw_icmp_le (tgt := 22) dX9_run_9 (by decide) (fun zz => absurd zz (fun z => by rcases hn with w | w; exact z1 w; exact absurd z (Int32.not_le.mpr w))) (fun _ => ?_)
    exact xw_pc (pc2 := 12) rfl (xw_throw (ik := 58) (is := 116) (ic := 62) (text := "n is not 1 .. 500") hX rfl (by decide) rfl tw_478 tw_51 at_A dX9_run_12 dX9_run_15 dX9_run_16 dX9_run_18 dX9_run_21 (by decide) (by decide) rfl)
theorem ctx_runB (hX : GX G) (h : Rep M A Γ σ γ b) {n : Nat} {p : Int64} (hn : 1 ≤ n ∧ n ≤ 500) (hal : sAl σ = 5000) : CTX G 12 285 mX9_run [.ref (aT A), .int (nI n), .long p] M xS (fun M1 => M1 = grow M 6 99) := by
  refine ctx_go (by decide +kernel) (Nat.le_of_ble_eq_true rfl) (L := [(0, .ref (aT A)), (1, .int (nI n)), (2, .long p)]) rfl ?_
  have hH := h.hdr
  refine xw_iload_n dX9_run_0 rfl rfl ?_
  refine xw_iconst (v := 1) dX9_run_1 (by decide) ?_
  refine xw_icmp_lt (tgt := 12) dX9_run_2 (by decide) (fun zz => absurd zz (show ¬ nI n < nI 1 from nI_nlt (by omega) (by omega))) (fun _ => ?_)
  refine xw_iload_n dX9_run_5 rfl rfl ?_
  refine xw_sipush (v := 500) dX9_run_6 (by decide) ?_
  refine xw_icmp_le (tgt := 22) dX9_run_9 (by decide) (fun _ => ?_) (fun zz => absurd (show nI n ≤ nI 500 from nI_le (by omega) (by decide)) zz)
  refine xw_aload_n dX9_run_22 rfl rfl ?_
  refine xw_get (ci := 10) (k := 11) (v := .int (nI (sAl σ))) dX9_run_23 hH rfl inX9 (by decide) tw_191 (Or.inl rfl) rfl ?_
  refine xw_sipush (v := 5000) dX9_run_26 (by decide) ?_
  refine xw_icmp_lt (tgt := 42) dX9_run_29 (by decide) (fun zz => absurd zz (show ¬ nI (sAl σ) < nI 5000 by rw [hal]; exact fun z => absurd z Int32.lt_irrefl)) (fun _ => ?_)
  exact xw_pc (pc2 := 32) rfl (xw_throw (ik := 73) (is := 121) (ic := 77) (text := "5000 have gone") hX rfl (by decide) rfl tw_546 tw_52 at_S dX9_run_32 dX9_run_35 dX9_run_36 dX9_run_38 dX9_run_41 (by decide) (by decide) rfl)
theorem ctx_result (hX : GX G) (h : Rep M A Γ σ γ b) (hb : b ≤ 14400000) {a w : Int32} (hn : ¬ askC (sRs σ).length a w) : CTX G 6 82 mX9_result [.ref (aT A), .int a, .int w] M xN (fun M1 => M1 = grow M 6 99) := by
  refine ctx_go (by decide +kernel) (Nat.le_of_ble_eq_true rfl) (L := [(0, .ref (aT A)), (1, .int a), (2, .int w)]) rfl ?_
  have hH := h.hdr
  obtain ⟨c0, xs, ⟨y, hy⟩, c2, c3⟩ := h.2.1.2.2.2.2.2.1
  refine xw_iload_n dX9_result_0 rfl rfl ?_
  refine xw_if_lt (tgt := 24) dX9_result_1 (by decide) (fun z1 => ?_) (fun z1 => ?_)
  · skip
    exact xw_pc (pc2 := 24) rfl (xw_throwX (rx := prog_30_method_4_code) (ix := 13) (ik := 171) (is := 173) (ic := 175) (text := "no such RESULT") hX rfl (by decide) rfl nx0 nx1 nx2 nx5 tw_753 tw_64 at_N dX9_result_24 dX9_result_27 dX9_result_28 dX9_result_30 dX9_result_33 (by decide) (by decide) rfl)
  · skip
    refine xw_iload_n dX9_result_4 rfl rfl ?_
    refine xw_aload_n dX9_result_5 rfl rfl ?_
    refine xw_get (ci := 10) (k := 6) (v := .ref (aQ A)) dX9_result_6 hH rfl inX9 (by decide) tw_186 (Or.inl rfl) rfl ?_
    refine xw_callV (q2 := mJx4a65c_size_8abf5) (n2 := 0) (ci := 0) (Bs := []) (rest := [.int a]) (ct_size hy) dX9_result_9 rfl (q_at hy) rfl rfl tw_228 tw_229 tw_230 tw_43 tw_231 (by decide +kernel) rfl (Nat.le_of_ble_eq_true rfl) (Nat.le_of_ble_eq_true rfl) (Nat.le_of_ble_eq_true rfl) (fun rr M1 hr hle1 => ?_)
    obtain ⟨rfl, hM1⟩ := hr
    obtain rfl := hM1.symm
    rw [show nI (xs, y).1.length = nI (sRs σ).length from congrArg nI c2]
    refine xw_icmp_ge (tgt := 24) dX9_result_12 (by decide) (fun z2 => ?_) (fun z2 => ?_)
    · skip
      exact xw_pc (pc2 := 24) rfl (xw_throwX (rx := prog_30_method_4_code) (ix := 13) (ik := 171) (is := 173) (ic := 175) (text := "no such RESULT") hX rfl (by decide) rfl nx0 nx1 nx2 nx5 tw_753 tw_64 at_N dX9_result_24 dX9_result_27 dX9_result_28 dX9_result_30 dX9_result_33 (by decide) (by decide) rfl)
    · skip
      refine xw_iload_n dX9_result_15 rfl rfl ?_
      refine xw_if_lt (tgt := 24) dX9_result_16 (by decide) (fun z3 => ?_) (fun z3 => ?_)
      · skip
        exact xw_pc (pc2 := 24) rfl (xw_throwX (rx := prog_30_method_4_code) (ix := 13) (ik := 171) (is := 173) (ic := 175) (text := "no such RESULT") hX rfl (by decide) rfl nx0 nx1 nx2 nx5 tw_753 tw_64 at_N dX9_result_24 dX9_result_27 dX9_result_28 dX9_result_30 dX9_result_33 (by decide) (by decide) rfl)
      · skip
        refine xw_iload_n dX9_result_19 rfl rfl ?_
        refine xw_iconst (v := 2) dX9_result_20 (by decide) ?_
        refine xw_pc (pc2 := 21) rfl ?_
        refine xw_icmp_le (tgt := 34) dX9_result_21 (by decide) (fun zz => absurd zz (fun z4 => hn ⟨⟨z1, Int32.not_le.mp z2⟩, z3, z4⟩)) (fun _ => ?_)
        exact xw_pc (pc2 := 24) rfl (xw_throwX (rx := prog_30_method_4_code) (ix := 13) (ik := 171) (is := 173) (ic := 175) (text := "no such RESULT") hX rfl (by decide) rfl nx0 nx1 nx2 nx5 tw_753 tw_64 at_N dX9_result_24 dX9_result_27 dX9_result_28 dX9_result_30 dX9_result_33 (by decide) (by decide) rfl)
theorem ctx_context (hX : GX G) (h : Rep M A Γ σ γ b) {a w : Int32} (hn : ¬ askC (sC σ).length a w) : CTX G 6 82 mX9_context [.ref (aT A), .int a, .int w] M xN (fun M1 => M1 = grow M 6 99) := by
  refine ctx_go (by decide +kernel) (Nat.le_of_ble_eq_true rfl) (L := [(0, .ref (aT A)), (1, .int a), (2, .int w)]) rfl ?_
  have hH := h.hdr
  have hcx := h.2.1.2.2.2.1
  obtain ⟨k1, -⟩ := id hcx
  refine xw_aload_n dX9_context_0 rfl rfl ?_
  refine xw_get (ci := 10) (k := 4) (v := .ref (aX A)) dX9_context_1 hH rfl inX9 (by decide) tw_184 (Or.inl rfl) rfl ?_
  refine xw_iload_n dX9_context_4 rfl rfl ?_
  refine xw_callV (q2 := mX3_has) (n2 := 1) (ci := 4) (Bs := [.int a]) (rest := []) (ct_has h.2.1.2.2.2.1) dX9_context_5 rfl (o_at k1) rfl rfl tw_459 tw_460 tw_461 tw_45 tw_462 (by decide +kernel) rfl (Nat.le_of_ble_eq_true rfl) (Nat.le_of_ble_eq_true rfl) (Nat.le_of_ble_eq_true rfl) (fun rr M1 hr hle1 => ?_)
  obtain ⟨rfl, hM1⟩ := hr
  obtain rfl := hM1.symm
  by_cases hc : ¬ a < 0 ∧ ¬ nI (sC σ).length ≤ a
  · skip
    rw [if_pos hc]
    refine xw_if_eq (tgt := 20) dX9_context_8 (by decide) (fun zz => absurd zz (by decide)) (fun _ => ?_)
    refine xw_iload_n dX9_context_11 rfl rfl ?_
    refine xw_if_lt (tgt := 20) dX9_context_12 (by decide) (fun z3 => ?_) (fun z3 => ?_)
    · skip
      exact xw_pc (pc2 := 20) rfl (xw_throwX (rx := prog_30_method_4_code) (ix := 13) (ik := 171) (is := 191) (ic := 175) (text := "no such CONTEXT") hX rfl (by decide) rfl nx0 nx1 nx2 nx5 tw_753 tw_64 at_N dX9_context_20 dX9_context_23 dX9_context_24 dX9_context_26 dX9_context_29 (by decide) (by decide) rfl)
    · skip
      refine xw_iload_n dX9_context_15 rfl rfl ?_
      refine xw_iconst (v := 2) dX9_context_16 (by decide) ?_
      refine xw_icmp_le (tgt := 30) dX9_context_17 (by decide) (fun zz => absurd zz (fun z4 => hn ⟨⟨hc.1, Int32.not_le.mp hc.2⟩, z3, z4⟩)) (fun _ => ?_)
      exact xw_pc (pc2 := 20) rfl (xw_throwX (rx := prog_30_method_4_code) (ix := 13) (ik := 171) (is := 191) (ic := 175) (text := "no such CONTEXT") hX rfl (by decide) rfl nx0 nx1 nx2 nx5 tw_753 tw_64 at_N dX9_context_20 dX9_context_23 dX9_context_24 dX9_context_26 dX9_context_29 (by decide) (by decide) rfl)
  · skip
    rw [if_neg hc]
    refine xw_if_eq (tgt := 20) dX9_context_8 (by decide) (fun _ => ?_) (fun zz => absurd rfl zz)
    exact xw_pc (pc2 := 20) rfl (xw_throwX (rx := prog_30_method_4_code) (ix := 13) (ik := 171) (is := 191) (ic := 175) (text := "no such CONTEXT") hX rfl (by decide) rfl nx0 nx1 nx2 nx5 tw_753 tw_64 at_N dX9_context_20 dX9_context_23 dX9_context_24 dX9_context_26 dX9_context_29 (by decide) (by decide) rfl)
theorem ctx_cell (hX : GX G) (h : Rep M A Γ σ γ b) {a i w : Int32} (hn : ¬ celC σ a i w) : CTX G 6 82 mX9_cell [.ref (aT A), .int a, .int i, .int w] M xN (fun M1 => M1 = grow M 6 99) := by
  refine ctx_go (by decide +kernel) (Nat.le_of_ble_eq_true rfl) (L := [(0, .ref (aT A)), (1, .int a), (2, .int i), (3, .int w)]) rfl ?_
  have hH := h.hdr
  refine xw_aload_n dX9_cell_0 rfl rfl ?_
  refine xw_get (ci := 10) (k := 5) (v := .ref (aC A)) dX9_cell_1 hH rfl inX9 (by decide) tw_185 (Or.inl rfl) rfl ?_
  refine xw_iload_n dX9_cell_4 rfl rfl ?_
  refine xw_i2l dX9_cell_5 ?_
  refine xw_iload_n dX9_cell_6 rfl rfl ?_
  refine xw_i2l dX9_cell_7 ?_
  refine xw_callV (q2 := mX2_at) (n2 := 2) (ci := 3) (Bs := [.long a.toInt64, .long i.toInt64]) (rest := []) (ct_at h) dX9_cell_8 rfl (o_at h.2.1.2.2.2.2.1.1) rfl rfl tw_707 tw_708 tw_709 tw_46 tw_710 (by decide +kernel) rfl (Nat.le_of_ble_eq_true rfl) (Nat.le_of_ble_eq_true rfl) (Nat.le_of_ble_eq_true rfl) (fun rr M1 hr hle1 => ?_)
  obtain ⟨hM1, hq⟩ := hr
  obtain rfl := hM1.symm
  rcases hq with ⟨rfl, hq⟩ | ⟨d', ca, rfl, hq, hcd⟩
  · skip
    refine xw_astoreN (L2 := [(4, .null), (0, .ref (aT A)), (1, .int a), (2, .int i), (3, .int w)]) dX9_cell_11 (by decide) rfl ?_
    refine xw_aloadN dX9_cell_13 rfl ?_
    refine xw_pc (pc2 := 15) rfl ?_
    refine xw_ifnullN (tgt := 27) dX9_cell_15 (by decide) ?_
    exact xw_pc (pc2 := 27) rfl (xw_throwX (rx := prog_30_method_4_code) (ix := 13) (ik := 171) (is := 206) (ic := 175) (text := "no such cell") hX rfl (by decide) rfl nx0 nx1 nx2 nx5 tw_753 tw_64 at_N dX9_cell_27 dX9_cell_30 dX9_cell_31 dX9_cell_33 dX9_cell_36 (by decide) (by decide) rfl)
  · skip
    refine xw_astore (L2 := [(4, .ref ca), (0, .ref (aT A)), (1, .int a), (2, .int i), (3, .int w)]) dX9_cell_11 (by decide) rfl ?_
    refine xw_aload dX9_cell_13 rfl ?_
    refine xw_ifnull dX9_cell_15 ?_
    refine xw_iload_n dX9_cell_18 rfl rfl ?_
    refine xw_if_lt (tgt := 27) dX9_cell_19 (by decide) (fun z3 => ?_) (fun z3 => ?_)
    · skip
      exact xw_pc (pc2 := 27) rfl (xw_throwX (rx := prog_30_method_4_code) (ix := 13) (ik := 171) (is := 206) (ic := 175) (text := "no such cell") hX rfl (by decide) rfl nx0 nx1 nx2 nx5 tw_753 tw_64 at_N dX9_cell_27 dX9_cell_30 dX9_cell_31 dX9_cell_33 dX9_cell_36 (by decide) (by decide) rfl)
    · skip
      refine xw_iload_n dX9_cell_22 rfl rfl ?_
      refine xw_iconst (v := 2) dX9_cell_23 (by decide) ?_
      refine xw_icmp_le (tgt := 37) dX9_cell_24 (by decide) (fun zz => absurd zz (fun z4 => by rw [cix_eq h.2.2] at hq; split at hq; (next hc => exact hn ⟨hc.1, hc.2, z3, z4⟩); cases hq)) (fun _ => ?_)
      exact xw_pc (pc2 := 27) rfl (xw_throwX (rx := prog_30_method_4_code) (ix := 13) (ik := 171) (is := 206) (ic := 175) (text := "no such cell") hX rfl (by decide) rfl nx0 nx1 nx2 nx5 tw_753 tw_64 at_N dX9_cell_27 dX9_cell_30 dX9_cell_31 dX9_cell_33 dX9_cell_36 (by decide) (by decide) rfl)
end THROWN
