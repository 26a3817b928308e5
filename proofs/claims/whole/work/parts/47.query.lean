/-! THE CLASS: ready, result, context, cell, waiting, total -/
theorem lk_0 {a b d : Int} {x : Int32} (h : x = 0) : Op.lookupswitch.offset [(0, a), (1, b)] d x.toInt = a := by subst h; rfl
theorem lk_1 {a b d : Int} {x : Int32} (h : x = 1) : Op.lookupswitch.offset [(0, a), (1, b)] d x.toInt = b := by subst h; rfl
theorem lk_d {a b d : Int} {x : Int32} (h0 : ¬ x = 0) (h1 : ¬ x = 1) : Op.lookupswitch.offset [(0, a), (1, b)] d x.toInt = d := by
  have z0 : ¬ (0 : Int) = x.toInt := fun z => h0 (Int32.toInt_inj.mp (z.symm.trans rfl))
  have z1 : ¬ (1 : Int) = x.toInt := fun z => h1 (Int32.toInt_inj.mp (z.symm.trans rfl))
  simp only [Op.lookupswitch.offset_cons, Op.lookupswitch.offset_nil]
  simp [z0, z1]
def rdy (σ : hs_S) (i w : Int32) : Int32 := if ¬ i < 0 ∧ i < nI (sR σ).length then (if w = 0 then nI (((sR σ)[i.toNatClampNeg]?).getD (0, 0, no3)).1 else if w = 1 then nI (((sR σ)[i.toNatClampNeg]?).getD (0, 0, no3)).2.1 else -1) else -1
def resu (σ : hs_S) (i : Nat) (w : Int32) : Int64 := if w = 0 then (((sRs σ)[i]?).getD ((0, 0), 0)).1.1.toInt64 else if w = 1 then (((sRs σ)[i]?).getD ((0, 0), 0)).1.2 else (nI (((sRs σ)[i]?).getD ((0, 0), 0)).2).toInt64
def ctxt (σ : hs_S) (c : Nat) (w : Int32) : Int32 := if w = 0 then (ct3 σ c).1 else if w = 1 then (ct3 σ c).2.1 else (ct3 σ c).2.2
def cel (σ : hs_S) (d : Nat) (w : Int32) : Int64 := if w = 0 then ((sCe σ d).getD (3, 0)).1.toInt64 else if w = 1 then ((sCe σ d).getD (3, 0)).2 else (nI (kf σ d).length).toInt64
def waitg (σ : hs_S) (k c : Int32) : Int32 := if (¬ k < 0 ∧ k < nI (sN σ).length) ∧ (¬ c < 0 ∧ ¬ nI (sC σ).length ≤ c) then nI (cnt (sT σ k.toNatClampNeg c.toNatClampNeg)) else -1
def tot (σ : hs_S) (w : Int32) : Int32 := if w = 0 then nI (sN σ).length else if w = 1 then nI (sR σ).length else if w = 2 then nI (sNt σ) else if w = 3 then nI (sRs σ).length else if w = 4 then nI (sC σ).length else if w = 5 then nI (sA σ) else if w = 6 then nI (sK σ).length else if w = 7 then nI (sTr σ) else if w = 8 then nI (sW σ) else if w = 9 then nI (sAl σ) else -1
section QUERY
variable {G : hx_G} {M M1 : hx_S} {A : hA} {Γ : hG} {σ : hs_S} {γ : hf_S} {b : Nat}
theorem Rep.rlen (h : Rep M A Γ σ γ b) : (gG γ (3, 0)).length = (sR σ).length := by
  have q := congrArg List.length h.2.1.2.2.1.2.2.2.2.1
  rw [List.length_map, List.length_map] at q
  omega
theorem ct_ready (h : Rep M A Γ σ γ b) (hb : b ≤ 14400000) {i w : Int32} : CT G 3 64 mX9_ready [.ref (aT A), .int i, .int w] M (fun r M1 => r = some (.int (rdy σ i w)) ∧ M1 = M) := by
  refine ct_go (by decide +kernel) (Nat.le_of_ble_eq_true rfl) (L := [(0, .ref (aT A)), (1, .int i), (2, .int w)]) rfl ?_
  have hH := h.hdr
  have h300 := h.2.2.2.2.2.2.2.2.2.2.1.1
  obtain ⟨⟨y, hy⟩, hro⟩ := h.2.1.2.1.2.1 (3, 0) act_3
  rw [ad_3] at hy hro
  have hcap := h.2.1.2.2.2.2.2.2.cap hb hy
  simp only at hcap
  have hlen := h.rlen
  refine xw_iload_n dX9_ready_0 rfl rfl ?_
  refine xw_if_lt (tgt := 15) dX9_ready_1 (by decide) (fun c1 => ?_) (fun c1 => ?_)
  · skip
    refine xw_iconst (v := (-1)) dX9_ready_15 (by decide) ?_
    exact xw_iret rfl dX9_ready_16 ⟨by unfold rdy; rw [if_neg (fun z => z.1 c1)], rfl⟩
  · skip
    refine xw_iload_n dX9_ready_4 rfl rfl ?_
    refine xw_aload_n dX9_ready_5 rfl rfl ?_
    refine xw_get (ci := 10) (k := 3) (v := .ref (aR A)) dX9_ready_6 hH rfl inX9 (by decide) tw_183 (Or.inl rfl) rfl ?_
    refine xw_callV (q2 := mJx4a65c_size_8abf5) (n2 := 0) (ci := 0) (Bs := []) (rest := [.int i]) (ct_size hy) dX9_ready_9 rfl (q_at hy) rfl rfl tw_228 tw_229 tw_230 tw_43 tw_231 (by decide +kernel) rfl (Nat.le_of_ble_eq_true rfl) (Nat.le_of_ble_eq_true rfl) (Nat.le_of_ble_eq_true rfl) (fun rr M1 hr hle1 => ?_)
    obtain ⟨rfl, hM1⟩ := hr
    obtain rfl := hM1.symm
    rw [show nI (gG γ (3, 0), y).1.length = nI (sR σ).length from congrArg nI hlen]
    refine xw_icmp_lt (tgt := 17) dX9_ready_12 (by decide) (fun c2 => ?_) (fun c2 => ?_)
    · obtain ⟨j, hj, hij, -⟩ := pk_mu c1 (show ¬ nI (sR σ).length ≤ i from fun z => absurd c2 (by rw [Int32.not_lt]; exact z)) (show (sR σ).length < 2 ^ 31 by omega)
      have hjl : j < (gG γ (3, 0)).length := by omega
      obtain ⟨f, hf0⟩ : ∃ f, f = (gG γ (3, 0))[j] := ⟨_, rfl⟩
      have hel : (gG γ (3, 0))[j]? = some f := by rw [List.getElem?_eq_getElem hjl, hf0]
      have hmd := h.2.1.inMD act_3 (List.mem_of_getElem? hel)
      obtain ⟨x, hx⟩ : ∃ x, (sR σ)[j]? = some x := ⟨_, List.getElem?_eq_getElem hj⟩
      obtain ⟨g1, -⟩ := h.2.2.2.2.2.2.2.1 x (List.mem_of_getElem? hx)
      have hpair : (nad Γ x.1, nI x.2.1, x.2.2) = (gna γ f, gfc γ f, gft γ f) := by
        have q := congrArg (fun l => l[j]?) h.2.1.2.2.1.2.2.2.2.1
        simp only [List.getElem?_map, hx, hel, Option.map_some] at q
        exact Option.some.inj q
      obtain ⟨e1, e23⟩ := Prod.mk.inj hpair
      obtain ⟨e2, e3⟩ := Prod.mk.inj e23
      obtain ⟨va, w0, w1, w2, p1, p2, -⟩ := h.2.1.2.1.2.2.1 f hmd
      rw [← e1, ← e2] at p2
      have hnode := h.2.1.node g1
      have hic : i.toNatClampNeg = j := by rw [hij, nI_clamp (by omega)]
      have hin : ¬ i < 0 ∧ i < nI (sR σ).length := ⟨c1, c2⟩
      have hxg : ((sR σ)[i.toNatClampNeg]?).getD (0, 0, no3) = x := by rw [hic, hx]; rfl
      refine xw_aload_n dX9_ready_17 rfl rfl ?_
      refine xw_get (ci := 10) (k := 3) (v := .ref (aR A)) dX9_ready_18 hH rfl inX9 (by decide) tw_183 (Or.inl rfl) rfl ?_
      refine xw_iload_n dX9_ready_21 rfl rfl ?_
      rw [hij]
      refine xw_callV (q2 := mJx4a65c_get_915e3) (n2 := 1) (ci := 0) (Bs := [.int (nI j)]) (rest := []) (ct_get hy (i := j) hjl (by show y.1 < 2 ^ 31; omega)) dX9_ready_22 rfl (q_at hy) rfl rfl tw_232 tw_233 tw_234 tw_43 tw_235 (by decide +kernel) rfl (Nat.le_of_ble_eq_true rfl) (Nat.le_of_ble_eq_true rfl) (Nat.le_of_ble_eq_true rfl) (fun rr M1 hr hle1 => ?_)
      obtain ⟨rfl, hM1⟩ := hr
      obtain rfl := hM1.symm
      refine Eq.mp (congrArg (fun z => XW G 3 64 mX9_ready [.ref (aT A), .int (nI j), .int w] M _ _ _ _ [.ref z]) hf0) ?_
      rw [← hij]
      refine xw_cast (ci := 5) dX9_ready_25 p2 rfl tw_454 ?_
      refine xw_astore_n (L2 := [(3, .ref f), (0, .ref (aT A)), (1, .int i), (2, .int w)]) dX9_ready_28 rfl (by decide) rfl ?_
      refine xw_iload_n dX9_ready_29 rfl rfl ?_
      by_cases v0 : w = 0
      · skip
        refine xw_lookup (off := 26) (tgt := 56) dX9_ready_30 (by decide) (lk_0 v0) rfl ?_
        refine xw_aload_n dX9_ready_56 rfl rfl ?_
        refine xw_get (ci := 5) (k := 2) (v := .ref (nad Γ x.1)) dX9_ready_57 p2 rfl inX4 (by decide) tw_380 (Or.inl rfl) rfl ?_
        refine xw_get (ci := 7) (k := 0) (v := .int (nI x.1)) dX9_ready_60 hnode rfl inX6 (by decide) tw_574 (Or.inl rfl) rfl ?_
        refine xw_pc (pc2 := 63) rfl ?_
        exact xw_iret rfl dX9_ready_63 ⟨by unfold rdy; rw [if_pos hin, if_pos v0, hxg], rfl⟩
      · skip
        by_cases v1 : w = 1
        · skip
          refine xw_lookup (off := 34) (tgt := 64) dX9_ready_30 (by decide) (lk_1 v1) rfl ?_
          refine xw_aload_n dX9_ready_64 rfl rfl ?_
          refine xw_get (ci := 5) (k := 3) (v := .int (nI x.2.1)) dX9_ready_65 p2 rfl inX4 (by decide) tw_384 (Or.inl rfl) rfl ?_
          exact xw_iret rfl dX9_ready_68 ⟨by unfold rdy; rw [if_pos hin, if_neg v0, if_pos v1, hxg], rfl⟩
        · skip
          refine xw_lookup (off := 39) (tgt := 69) dX9_ready_30 (by decide) (lk_d v0 v1) rfl ?_
          refine xw_iconst (v := (-1)) dX9_ready_69 (by decide) ?_
          exact xw_iret rfl dX9_ready_70 ⟨by unfold rdy; rw [if_pos hin, if_neg v0, if_neg v1], rfl⟩
    · skip
      refine xw_iconst (v := (-1)) dX9_ready_15 (by decide) ?_
      exact xw_iret rfl dX9_ready_16 ⟨by unfold rdy; rw [if_neg (fun z => c2 z.2)], rfl⟩
theorem ct_result (h : Rep M A Γ σ γ b) (hb : b ≤ 14400000) {i : Nat} {w : Int32} (hi : i < (sRs σ).length) (hw : ¬ w < 0 ∧ w ≤ 2) : CT G 3 64 mX9_result [.ref (aT A), .int (nI i), .int w] M (fun r M1 => r = some (.long (resu σ i w)) ∧ M1 = M) := by
  refine ct_go (by decide +kernel) (Nat.le_of_ble_eq_true rfl) (L := [(0, .ref (aT A)), (1, .int (nI i)), (2, .int w)]) rfl ?_
  have hH := h.hdr
  obtain ⟨q1, q2, q3, q4, q5, q6⟩ := h.2.2.2.2.2.2.2.2.2.2.1
  obtain ⟨c0, xs, ⟨y, hy⟩, c2, c3⟩ := h.2.1.2.2.2.2.2.1
  have hcap := h.2.1.2.2.2.2.2.2.cap hb hy
  simp only at hcap
  have hil : i < xs.length := by omega
  obtain ⟨a, ha0⟩ : ∃ a, a = xs[i] := ⟨_, rfl⟩
  have hel : xs[i]? = some a := by rw [List.getElem?_eq_getElem hil, ha0]
  obtain ⟨x, hx⟩ : ∃ x, (sRs σ)[i]? = some x := ⟨_, List.getElem?_eq_getElem hi⟩
  obtain ⟨u, m1, m2⟩ := c3 i a x hel hx
  have hxg : ((sRs σ)[i]?).getD ((0, 0), 0) = x := by rw [hx]; rfl
  refine xw_iload_n dX9_result_0 rfl rfl ?_
  refine xw_if_lt (tgt := 24) dX9_result_1 (by decide) (fun zz => absurd zz (nI_pos (by omega))) (fun _ => ?_)
  refine xw_iload_n dX9_result_4 rfl rfl ?_
  refine xw_aload_n dX9_result_5 rfl rfl ?_
  refine xw_get (ci := 10) (k := 6) (v := .ref (aQ A)) dX9_result_6 hH rfl inX9 (by decide) tw_186 (Or.inl rfl) rfl ?_
  refine xw_callV (q2 := mJx4a65c_size_8abf5) (n2 := 0) (ci := 0) (Bs := []) (rest := [.int (nI i)]) (ct_size hy) dX9_result_9 rfl (q_at hy) rfl rfl tw_228 tw_229 tw_230 tw_43 tw_231 (by decide +kernel) rfl (Nat.le_of_ble_eq_true rfl) (Nat.le_of_ble_eq_true rfl) (Nat.le_of_ble_eq_true rfl) (fun rr M1 hr hle1 => ?_)
  obtain ⟨rfl, hM1⟩ := hr
  obtain rfl := hM1.symm
  refine xw_icmp_ge (tgt := 24) dX9_result_12 (by decide) (fun zz => absurd zz (nI_ge hil (show xs.length < 2 ^ 31 by omega))) (fun _ => ?_)
  refine xw_iload_n dX9_result_15 rfl rfl ?_
  refine xw_if_lt (tgt := 24) dX9_result_16 (by decide) (fun zz => absurd zz hw.1) (fun _ => ?_)
  refine xw_iload_n dX9_result_19 rfl rfl ?_
  refine xw_iconst (v := 2) dX9_result_20 (by decide) ?_
  refine xw_icmp_le (tgt := 34) dX9_result_21 (by decide) (fun _ => ?_) (fun zz => absurd hw.2 zz)
  refine xw_aload_n dX9_result_34 rfl rfl ?_
  refine xw_get (ci := 10) (k := 6) (v := .ref (aQ A)) dX9_result_35 hH rfl inX9 (by decide) tw_186 (Or.inl rfl) rfl ?_
  refine xw_iload_n dX9_result_38 rfl rfl ?_
  refine xw_pc (pc2 := 39) rfl ?_
  refine xw_callV (q2 := mJx4a65c_get_915e3) (n2 := 1) (ci := 0) (Bs := [.int (nI i)]) (rest := []) (ct_get hy (i := i) hil (by show y.1 < 2 ^ 31; omega)) dX9_result_39 rfl (q_at hy) rfl rfl tw_232 tw_233 tw_234 tw_43 tw_235 (by decide +kernel) rfl (Nat.le_of_ble_eq_true rfl) (Nat.le_of_ble_eq_true rfl) (Nat.le_of_ble_eq_true rfl) (fun rr M1 hr hle1 => ?_)
  obtain ⟨rfl, hM1⟩ := hr
  obtain rfl := hM1.symm
  refine Eq.mp (congrArg (fun z => XW G 3 64 mX9_result [.ref (aT A), .int (nI i), .int w] M _ _ _ _ [.ref z]) ha0) ?_
  refine xw_cast (ci := 8) dX9_result_42 m1 rfl tw_724 ?_
  refine xw_astore_n (L2 := [(3, .ref a), (0, .ref (aT A)), (1, .int (nI i)), (2, .int w)]) dX9_result_45 rfl (by decide) rfl ?_
  refine xw_iload_n dX9_result_46 rfl rfl ?_
  by_cases v0 : w = 0
  · skip
    refine xw_lookup (off := 25) (tgt := 72) dX9_result_47 (by decide) (lk_0 v0) rfl ?_
    refine xw_aload_n dX9_result_72 rfl rfl ?_
    refine xw_get (ci := 8) (k := 0) (v := .ref u) dX9_result_73 m1 rfl inX7 (by decide) tw_731 (Or.inl rfl) rfl ?_
    refine xw_get (ci := 9) (k := 0) (v := .int x.1.1) dX9_result_76 m2 rfl inX8 (by decide) tw_82 (Or.inl rfl) rfl ?_
    refine xw_i2l dX9_result_79 ?_
    exact xw_lret rfl dX9_result_80 ⟨by unfold resu; rw [if_pos v0, hxg], rfl⟩
  · skip
    by_cases v1 : w = 1
    · skip
      refine xw_lookup (off := 34) (tgt := 81) dX9_result_47 (by decide) (lk_1 v1) rfl ?_
      refine xw_aload_n dX9_result_81 rfl rfl ?_
      refine xw_get (ci := 8) (k := 0) (v := .ref u) dX9_result_82 m1 rfl inX7 (by decide) tw_731 (Or.inl rfl) rfl ?_
      refine xw_get (ci := 9) (k := 1) (v := .long x.1.2) dX9_result_85 m2 rfl inX8 (by decide) tw_84 (Or.inl rfl) rfl ?_
      exact xw_lret rfl dX9_result_88 ⟨by unfold resu; rw [if_neg v0, if_pos v1, hxg], rfl⟩
    · skip
      refine xw_lookup (off := 42) (tgt := 89) dX9_result_47 (by decide) (lk_d v0 v1) rfl ?_
      refine xw_aload_n dX9_result_89 rfl rfl ?_
      refine xw_get (ci := 8) (k := 1) (v := .int (nI x.2)) dX9_result_90 m1 rfl inX7 (by decide) tw_733 (Or.inl rfl) rfl ?_
      refine xw_i2l dX9_result_93 ?_
      exact xw_lret rfl dX9_result_94 ⟨by unfold resu; rw [if_neg v0, if_neg v1, hxg], rfl⟩
theorem ct_context (h : Rep M A Γ σ γ b) {c : Nat} {w : Int32} (hc : c < (sC σ).length) (hw : ¬ w < 0 ∧ w ≤ 2) : CT G 1 21 mX9_context [.ref (aT A), .int (nI c), .int w] M (fun r M1 => r = some (.int (ctxt σ c w)) ∧ M1 = M) := by
  refine ct_go (by decide +kernel) (Nat.le_of_ble_eq_true rfl) (L := [(0, .ref (aT A)), (1, .int (nI c)), (2, .int w)]) rfl ?_
  have hH := h.hdr
  have hcx := h.2.1.2.2.2.1
  obtain ⟨k1, ⟨fo, fs, fr, k2, k3, k4, k5⟩, k6, k7, -⟩ := hcx
  obtain ⟨z1, z2, z3⟩ := k5 c _ (ct3_at hc)
  refine xw_aload_n dX9_context_0 rfl rfl ?_
  refine xw_get (ci := 10) (k := 4) (v := .ref (aX A)) dX9_context_1 hH rfl inX9 (by decide) tw_184 (Or.inl rfl) rfl ?_
  refine xw_iload_n dX9_context_4 rfl rfl ?_
  refine xw_pc (pc2 := 5) rfl ?_
  refine xw_callV (q2 := mX3_has) (n2 := 1) (ci := 4) (Bs := [.int (nI c)]) (rest := []) (ct_has h.2.1.2.2.2.1) dX9_context_5 rfl (o_at k1) rfl rfl tw_459 tw_460 tw_461 tw_45 tw_462 (by decide +kernel) rfl (Nat.le_of_ble_eq_true rfl) (Nat.le_of_ble_eq_true rfl) (Nat.le_of_ble_eq_true rfl) (fun rr M1 hr hle1 => ?_)
  obtain ⟨rfl, hM1⟩ := hr
  obtain rfl := hM1.symm
  rw [if_pos ⟨nI_pos (by omega), nI_ge hc (by omega)⟩]
  refine xw_if_eq (tgt := 20) dX9_context_8 (by decide) (fun zz => absurd zz (by decide)) (fun _ => ?_)
  refine xw_iload_n dX9_context_11 rfl rfl ?_
  refine xw_if_lt (tgt := 20) dX9_context_12 (by decide) (fun zz => absurd zz hw.1) (fun _ => ?_)
  refine xw_iload_n dX9_context_15 rfl rfl ?_
  refine xw_iconst (v := 2) dX9_context_16 (by decide) ?_
  refine xw_icmp_le (tgt := 30) dX9_context_17 (by decide) (fun _ => ?_) (fun zz => absurd hw.2 zz)
  refine xw_iload_n dX9_context_30 rfl rfl ?_
  have hin : vp_in (nI c) 151 := vp_in_nI (by omega) (by decide)
  by_cases v0 : w = 0
  · skip
    refine xw_lookup (off := 25) (tgt := 56) dX9_context_31 (by decide) (lk_0 v0) rfl ?_
    refine xw_aload_n dX9_context_56 rfl rfl ?_
    refine xw_get (ci := 10) (k := 4) (v := .ref (aX A)) dX9_context_57 hH rfl inX9 (by decide) tw_184 (Or.inl rfl) rfl ?_
    refine xw_get (ci := 4) (k := 0) (v := .ref (aO A)) dX9_context_60 k1 rfl inX3 (by decide) tw_141 (Or.inl rfl) rfl ?_
    refine xw_iload_n dX9_context_63 rfl rfl ?_
    refine xw_iald dX9_context_64 k2 hin ?_
    exact xw_iret rfl dX9_context_65 ⟨by unfold ctxt; rw [if_pos v0, nI_clamp (by omega), z1], rfl⟩
  · skip
    by_cases v1 : w = 1
    · skip
      refine xw_lookup (off := 35) (tgt := 66) dX9_context_31 (by decide) (lk_1 v1) rfl ?_
      refine xw_aload_n dX9_context_66 rfl rfl ?_
      refine xw_get (ci := 10) (k := 4) (v := .ref (aX A)) dX9_context_67 hH rfl inX9 (by decide) tw_184 (Or.inl rfl) rfl ?_
      refine xw_get (ci := 4) (k := 1) (v := .ref (aS A)) dX9_context_70 k1 rfl inX3 (by decide) tw_143 (Or.inl rfl) rfl ?_
      refine xw_iload_n dX9_context_73 rfl rfl ?_
      refine xw_iald dX9_context_74 k3 hin ?_
      exact xw_iret rfl dX9_context_75 ⟨by unfold ctxt; rw [if_neg v0, if_pos v1, nI_clamp (by omega), z2], rfl⟩
    · skip
      refine xw_lookup (off := 45) (tgt := 76) dX9_context_31 (by decide) (lk_d v0 v1) rfl ?_
      refine xw_aload_n dX9_context_76 rfl rfl ?_
      refine xw_get (ci := 10) (k := 4) (v := .ref (aX A)) dX9_context_77 hH rfl inX9 (by decide) tw_184 (Or.inl rfl) rfl ?_
      refine xw_get (ci := 4) (k := 2) (v := .ref (aU A)) dX9_context_80 k1 rfl inX3 (by decide) tw_145 (Or.inl rfl) rfl ?_
      refine xw_iload_n dX9_context_83 rfl rfl ?_
      refine xw_pc (pc2 := 84) rfl ?_
      refine xw_iald dX9_context_84 k4 hin ?_
      exact xw_iret rfl dX9_context_85 ⟨by unfold ctxt; rw [if_neg v0, if_neg v1, nI_clamp (by omega), z3], rfl⟩
theorem ct_cell (h : Rep M A Γ σ γ b) {a i w : Int32} {d : Nat} (hd : cix σ a.toInt64 i.toInt64 = some d) (hw : ¬ w < 0 ∧ w ≤ 2) : CT G 1 25 mX9_cell [.ref (aT A), .int a, .int i, .int w] M (fun r M1 => r = some (.long (cel σ d w)) ∧ M1 = M) := by
  refine ct_go (by decide +kernel) (Nat.le_of_ble_eq_true rfl) (L := [(0, .ref (aT A)), (1, .int a), (2, .int i), (3, .int w)]) rfl ?_
  have hH := h.hdr
  have hnv := h.2.1.2.1.2.2.2.2
  refine xw_aload_n dX9_cell_0 rfl rfl ?_
  refine xw_get (ci := 10) (k := 5) (v := .ref (aC A)) dX9_cell_1 hH rfl inX9 (by decide) tw_185 (Or.inl rfl) rfl ?_
  refine xw_iload_n dX9_cell_4 rfl rfl ?_
  refine xw_i2l dX9_cell_5 ?_
  refine xw_iload_n dX9_cell_6 rfl rfl ?_
  refine xw_i2l dX9_cell_7 ?_
  refine xw_callV (q2 := mX2_at) (n2 := 2) (ci := 3) (Bs := [.long a.toInt64, .long i.toInt64]) (rest := []) (ct_at h) dX9_cell_8 rfl (o_at h.2.1.2.2.2.2.1.1) rfl rfl tw_707 tw_708 tw_709 tw_46 tw_710 (by decide +kernel) rfl (Nat.le_of_ble_eq_true rfl) (Nat.le_of_ble_eq_true rfl) (Nat.le_of_ble_eq_true rfl) (fun rr M1 hr hle1 => ?_)
  obtain ⟨hM1, hq⟩ := hr
  obtain rfl := hM1.symm
  rcases hq with ⟨-, hn⟩ | ⟨d', ca, rfl, hn, hcd⟩
  · rw [hd] at hn; cases hn
  · rw [hd] at hn
    cases hn
    obtain ⟨c1, c2, u, c3, c4⟩ := h.2.1.2.2.2.2.1.2.2.2.2.1 d ca hcd
    have hv : So M 9 u = some [.int ((sCe σ d).getD (3, 0)).1, .long ((sCe σ d).getD (3, 0)).2] := by
      rcases c4 with ⟨e0, hwn⟩ | ⟨v, e0, e1, e2⟩
      · rw [e0, hwn]; exact hnv
      · rw [e0]; exact e1
    obtain ⟨⟨y, hy⟩, -⟩ := h.2.1.2.1.2.1 (7, d) (act_7 hcd)
    rw [ad_7] at hy
    have hlen : (gG γ (7, d)).length = (kf σ d).length := by
      have q := congrArg List.length (h.2.1.2.2.1.2.2.2.2.2.1 d ⟨ca, hcd⟩)
      rw [List.length_map, List.length_map] at q
      omega
    refine xw_astore (L2 := [(4, .ref ca), (0, .ref (aT A)), (1, .int a), (2, .int i), (3, .int w)]) dX9_cell_11 (by decide) rfl ?_
    refine xw_aload dX9_cell_13 rfl ?_
    refine xw_ifnull dX9_cell_15 ?_
    refine xw_iload_n dX9_cell_18 rfl rfl ?_
    refine xw_if_lt (tgt := 27) dX9_cell_19 (by decide) (fun zz => absurd zz hw.1) (fun _ => ?_)
    refine xw_iload_n dX9_cell_22 rfl rfl ?_
    refine xw_iconst (v := 2) dX9_cell_23 (by decide) ?_
    refine xw_icmp_le (tgt := 37) dX9_cell_24 (by decide) (fun _ => ?_) (fun zz => absurd hw.2 zz)
    refine xw_iload_n dX9_cell_37 rfl rfl ?_
    by_cases v0 : w = 0
    · skip
      refine xw_lookup (off := 26) (tgt := 64) dX9_cell_38 (by decide) (lk_0 v0) rfl ?_
      refine xw_aload dX9_cell_64 rfl ?_
      refine xw_get (ci := 2) (k := 1) (v := .ref u) dX9_cell_66 c3 rfl inX1 (by decide) tw_701 (Or.inl rfl) rfl ?_
      refine xw_get (ci := 9) (k := 0) (v := .int ((sCe σ d).getD (3, 0)).1) dX9_cell_69 hv rfl inX8 (by decide) tw_82 (Or.inl rfl) rfl ?_
      refine xw_i2l dX9_cell_72 ?_
      refine xw_pc (pc2 := 73) rfl ?_
      exact xw_lret rfl dX9_cell_73 ⟨by unfold cel; rw [if_pos v0], rfl⟩
    · skip
      by_cases v1 : w = 1
      · skip
        refine xw_lookup (off := 36) (tgt := 74) dX9_cell_38 (by decide) (lk_1 v1) rfl ?_
        refine xw_aload dX9_cell_74 rfl ?_
        refine xw_get (ci := 2) (k := 1) (v := .ref u) dX9_cell_76 c3 rfl inX1 (by decide) tw_701 (Or.inl rfl) rfl ?_
        refine xw_get (ci := 9) (k := 1) (v := .long ((sCe σ d).getD (3, 0)).2) dX9_cell_79 hv rfl inX8 (by decide) tw_84 (Or.inl rfl) rfl ?_
        exact xw_lret rfl dX9_cell_82 ⟨by unfold cel; rw [if_neg v0, if_pos v1], rfl⟩
      · skip
        refine xw_lookup (off := 45) (tgt := 83) dX9_cell_38 (by decide) (lk_d v0 v1) rfl ?_
        refine xw_aload dX9_cell_83 rfl ?_
        refine xw_get (ci := 2) (k := 0) (v := .ref (gkl γ d)) dX9_cell_85 c3 rfl inX1 (by decide) tw_698 (Or.inl rfl) rfl ?_
        refine xw_callV (q2 := mJx4a65c_size_8abf5) (n2 := 0) (ci := 0) (Bs := []) (rest := []) (ct_size hy) dX9_cell_88 rfl (q_at hy) rfl rfl tw_228 tw_229 tw_230 tw_43 tw_231 (by decide +kernel) rfl (Nat.le_of_ble_eq_true rfl) (Nat.le_of_ble_eq_true rfl) (Nat.le_of_ble_eq_true rfl) (fun rr M1 hr hle1 => ?_)
        obtain ⟨rfl, hM1⟩ := hr
        obtain rfl := hM1.symm
        rw [show nI (gG γ (7, d), y).1.length = nI (kf σ d).length from congrArg nI hlen]
        refine xw_i2l dX9_cell_91 ?_
        exact xw_lret rfl dX9_cell_92 ⟨by unfold cel; rw [if_neg v0, if_neg v1], rfl⟩
theorem ct_waiting (h : Rep M A Γ σ γ b) (hb : b ≤ 14400000) {k c : Int32} : CT G 4 87 mX9_waiting [.ref (aT A), .int k, .int c] M (fun r M1 => r = some (.int (waitg σ k c)) ∧ M1 = M) := by
  refine ct_go (by decide +kernel) (Nat.le_of_ble_eq_true rfl) (L := [(0, .ref (aT A)), (1, .int k), (2, .int c)]) rfl ?_
  have hH := h.hdr
  have h40 := h.2.2.1
  have hcx := h.2.1.2.2.2.1
  have h151 := h.2.2.2.2.1.2.1
  refine xw_aload_n dX9_waiting_0 rfl rfl ?_
  refine xw_iload_n dX9_waiting_1 rfl rfl ?_
  refine xw_callV (q2 := mX9_nodeAt) (n2 := 1) (ci := 10) (Bs := [.int k]) (rest := []) (ct_nodeAt h hb) dX9_waiting_2 rfl (o_at h.1) rfl rfl tw_224 tw_226 tw_0 tw_39 tw_227 (by decide +kernel) rfl (Nat.le_of_ble_eq_true rfl) (Nat.le_of_ble_eq_true rfl) (Nat.le_of_ble_eq_true rfl) (fun rr M1 hr hle1 => ?_)
  obtain ⟨hM1, hq⟩ := hr
  obtain rfl := hM1.symm
  rcases hq with ⟨rfl, hn⟩ | ⟨j, hj, hkj, rfl⟩
  · skip
    refine xw_astore_nN (L2 := [(3, .null), (0, .ref (aT A)), (1, .int k), (2, .int c)]) dX9_waiting_5 rfl (by decide) rfl ?_
    refine xw_aload_nN dX9_waiting_6 rfl rfl ?_
    refine xw_ifnullN (tgt := 21) dX9_waiting_7 (by decide) ?_
    refine xw_iconst (v := (-1)) dX9_waiting_21 (by decide) ?_
    exact xw_iret rfl dX9_waiting_22 ⟨by unfold waitg; rw [if_neg (fun z => hn z.1)], rfl⟩
  · have hkc : k.toNatClampNeg = j := by rw [hkj, nI_clamp (by omega)]
    have hkok : ¬ k < 0 ∧ k < nI (sN σ).length := by rw [hkj]; exact ⟨nI_pos (by omega), nI_lt hj (by omega)⟩
    refine xw_astore_n (L2 := [(3, .ref (nad Γ j)), (0, .ref (aT A)), (1, .int k), (2, .int c)]) dX9_waiting_5 rfl (by decide) rfl ?_
    refine xw_aload_n dX9_waiting_6 rfl rfl ?_
    refine xw_pc (pc2 := 7) rfl ?_
    refine xw_ifnull dX9_waiting_7 ?_
    refine xw_aload_n dX9_waiting_10 rfl rfl ?_
    refine xw_get (ci := 10) (k := 4) (v := .ref (aX A)) dX9_waiting_11 hH rfl inX9 (by decide) tw_184 (Or.inl rfl) rfl ?_
    refine xw_iload_n dX9_waiting_14 rfl rfl ?_
    refine xw_callV (q2 := mX3_has) (n2 := 1) (ci := 4) (Bs := [.int c]) (rest := []) (ct_has hcx) dX9_waiting_15 rfl (o_at hcx.1) rfl rfl tw_459 tw_460 tw_461 tw_45 tw_462 (by decide +kernel) rfl (Nat.le_of_ble_eq_true rfl) (Nat.le_of_ble_eq_true rfl) (Nat.le_of_ble_eq_true rfl) (fun rr M1 hr hle1 => ?_)
    obtain ⟨rfl, hM1⟩ := hr
    obtain rfl := hM1.symm
    by_cases hc : ¬ c < 0 ∧ ¬ nI (sC σ).length ≤ c
    · rw [if_pos hc]
      refine xw_if_ne (tgt := 23) dX9_waiting_18 (by decide) (fun _ => ?_) (fun zz => absurd zz (by decide))
      refine xw_aload_n dX9_waiting_23 rfl rfl ?_
      refine xw_iload_n dX9_waiting_24 rfl rfl ?_
      obtain ⟨cc, hcc, hce, -⟩ := pk_mu hc.1 hc.2 (show (sC σ).length < 2 ^ 31 by omega)
      have hcl : c.toNatClampNeg = cc := by rw [hce, nI_clamp (by omega)]
      have hw1 : waitg σ k c = nI (cnt (sT σ j cc)) := by unfold waitg; rw [if_pos ⟨hkok, hc⟩, hkc, hcl]
      rw [hw1]
      rw [hce]
      refine xw_callV (q2 := mX6_frameIn) (n2 := 1) (ci := 7) (Bs := [.int (nI cc)]) (rest := []) (ct_frameIn h.2.1 hb hj (show cc < 151 by omega)) dX9_waiting_25 rfl (o_at (h.2.1.node hj)) rfl rfl tw_349 tw_350 tw_351 tw_53 tw_352 (by decide +kernel) rfl (Nat.le_of_ble_eq_true rfl) (Nat.le_of_ble_eq_true rfl) (Nat.le_of_ble_eq_true rfl) (fun rr M1 hr hle1 => ?_)
      obtain ⟨hM1, hq⟩ := hr
      obtain rfl := hM1.symm
      rcases hq with ⟨rfl, hno⟩ | ⟨f, rfl, hf, hfc⟩
      · have hno3 : sT σ j cc = no3 := by
          rcases (h.2.1.2.2.1.2.2.2.1 j hj).2.2 cc (by omega) with ⟨f, hf, hfc⟩ | z
          · exact absurd hfc (hno f hf)
          · exact z
        refine xw_astoreN (L2 := [(4, .null), (3, .ref (nad Γ j)), (0, .ref (aT A)), (1, .int k), (2, .int (nI cc))]) dX9_waiting_28 (by decide) rfl ?_
        refine xw_aloadN dX9_waiting_30 rfl ?_
        refine xw_ifnonnullN dX9_waiting_32 ?_
        refine xw_iconst (v := 0) dX9_waiting_35 (by decide) ?_
        refine xw_goto (tgt := 44) dX9_waiting_36 (by decide) ?_
        exact xw_iret rfl dX9_waiting_44 ⟨by rw [hno3]; rfl, rfl⟩
      · obtain ⟨-, c', hc', hfc', hft⟩ := (h.2.1.2.2.1.2.2.2.1 j hj).1 f hf
        obtain rfl : c' = cc := (nI_eq (by omega) (by omega)).mp (hfc'.symm.trans hfc)
        obtain ⟨va, w0, w1, w2, p1, p2, -⟩ := h.2.1.2.1.2.2.1 f (h.2.1.inMD (act_6 hj) hf)
        refine xw_astore (L2 := [(4, .ref f), (3, .ref (nad Γ j)), (0, .ref (aT A)), (1, .int k), (2, .int (nI c'))]) dX9_waiting_28 (by decide) rfl ?_
        refine xw_aload dX9_waiting_30 rfl ?_
        refine xw_ifnonnull (tgt := 39) dX9_waiting_32 (by decide) ?_
        refine xw_aload dX9_waiting_39 rfl ?_
        refine xw_get (ci := 5) (k := 4) (v := .int (nI (cnt (gft γ f)))) dX9_waiting_41 p2 rfl inX4 (by decide) tw_386 (Or.inl rfl) rfl ?_
        refine xw_pc (pc2 := 44) rfl ?_
        exact xw_iret rfl dX9_waiting_44 ⟨by rw [hft], rfl⟩
    · rw [if_neg hc]
      refine xw_if_ne (tgt := 23) dX9_waiting_18 (by decide) (fun zz => absurd (by decide) zz) (fun _ => ?_)
      refine xw_iconst (v := (-1)) dX9_waiting_21 (by decide) ?_
      exact xw_iret rfl dX9_waiting_22 ⟨by unfold waitg; rw [if_neg (fun z => hc z.2)], rfl⟩
theorem w_ne {w : Int32} {n : Nat} (hn : n < 2 ^ 31) (h : ¬ w = nI n) : ¬ w.toInt = n := fun z => h (Int32.toInt_inj.mp (z.trans (nI_toInt hn).symm))
theorem ct_total (h : Rep M A Γ σ γ b) {w : Int32} : CT G 1 20 mX9_total [.ref (aT A), .int w] M (fun r M1 => r = some (.int (tot σ w)) ∧ M1 = M) := by
  refine ct_go (by decide +kernel) (Nat.le_of_ble_eq_true rfl) (L := [(0, .ref (aT A)), (1, .int w)]) rfl ?_
  have hH := h.hdr
  obtain ⟨⟨y, hy⟩, -⟩ := h.2.1.1
  obtain ⟨⟨y2, hy2⟩, -⟩ := h.2.1.2.1.2.1 (3, 0) act_3
  rw [ad_3] at hy2
  obtain ⟨c0, xs, ⟨y3, hy3⟩, c2, c3⟩ := h.2.1.2.2.2.2.2.1
  have k1 := h.2.1.2.2.2.1.1
  have k2 := h.2.1.2.2.2.2.1.1
  have hlen : ((List.range (sN σ).length).map (nad Γ)).length = (sN σ).length := by simp
  refine xw_iload_n dX9_total_0 rfl rfl ?_
  by_cases v0 : w = nI 0
  · have ht : tot σ w = tot σ (nI 0) := by rw [v0]
    rw [ht]
    rw [v0]
    refine xw_tableIn (off := 55) (tgt := 56) dX9_total_1 (by decide +kernel) (by decide +kernel) (by decide +kernel) rfl ?_
    refine xw_aload_n dX9_total_56 rfl rfl ?_
    refine xw_get (ci := 10) (k := 1) (v := .ref (aN A)) dX9_total_57 hH rfl inX9 (by decide) tw_181 (Or.inl rfl) rfl ?_
    refine xw_callV (q2 := mJx4a65c_size_8abf5) (n2 := 0) (ci := 0) (Bs := []) (rest := []) (ct_size hy) dX9_total_60 rfl (q_at hy) rfl rfl tw_228 tw_229 tw_230 tw_43 tw_231 (by decide +kernel) rfl (Nat.le_of_ble_eq_true rfl) (Nat.le_of_ble_eq_true rfl) (Nat.le_of_ble_eq_true rfl) (fun rr M1 hr hle1 => ?_)
    obtain ⟨rfl, hM1⟩ := hr
    obtain rfl := hM1.symm
    exact xw_iret rfl dX9_total_63 ⟨congrArg (fun z => some (Value.int (nI z))) hlen, rfl⟩
  · skip
    by_cases v1 : w = nI 1
    · have ht : tot σ w = tot σ (nI 1) := by rw [v1]
      rw [ht]
      rw [v1]
      refine xw_tableIn (off := 63) (tgt := 64) dX9_total_1 (by decide +kernel) (by decide +kernel) (by decide +kernel) rfl ?_
      refine xw_aload_n dX9_total_64 rfl rfl ?_
      refine xw_get (ci := 10) (k := 3) (v := .ref (aR A)) dX9_total_65 hH rfl inX9 (by decide) tw_183 (Or.inl rfl) rfl ?_
      refine xw_callV (q2 := mJx4a65c_size_8abf5) (n2 := 0) (ci := 0) (Bs := []) (rest := []) (ct_size hy2) dX9_total_68 rfl (q_at hy2) rfl rfl tw_228 tw_229 tw_230 tw_43 tw_231 (by decide +kernel) rfl (Nat.le_of_ble_eq_true rfl) (Nat.le_of_ble_eq_true rfl) (Nat.le_of_ble_eq_true rfl) (fun rr M1 hr hle1 => ?_)
      obtain ⟨rfl, hM1⟩ := hr
      obtain rfl := hM1.symm
      exact xw_iret rfl dX9_total_71 ⟨congrArg (fun z => some (Value.int (nI z))) h.rlen, rfl⟩
    · skip
      by_cases v2 : w = nI 2
      · have ht : tot σ w = tot σ (nI 2) := by rw [v2]
        rw [ht]
        rw [v2]
        refine xw_tableIn (off := 71) (tgt := 72) dX9_total_1 (by decide +kernel) (by decide +kernel) (by decide +kernel) rfl ?_
        refine xw_aload_n dX9_total_72 rfl rfl ?_
        refine xw_get (ci := 10) (k := 7) (v := .int (nI (sNt σ))) dX9_total_73 hH rfl inX9 (by decide) tw_187 (Or.inl rfl) rfl ?_
        exact xw_iret rfl dX9_total_76 ⟨rfl, rfl⟩
      · skip
        by_cases v3 : w = nI 3
        · have ht : tot σ w = tot σ (nI 3) := by rw [v3]
          rw [ht]
          rw [v3]
          refine xw_tableIn (off := 76) (tgt := 77) dX9_total_1 (by decide +kernel) (by decide +kernel) (by decide +kernel) rfl ?_
          refine xw_aload_n dX9_total_77 rfl rfl ?_
          refine xw_get (ci := 10) (k := 6) (v := .ref (aQ A)) dX9_total_78 hH rfl inX9 (by decide) tw_186 (Or.inl rfl) rfl ?_
          refine xw_callV (q2 := mJx4a65c_size_8abf5) (n2 := 0) (ci := 0) (Bs := []) (rest := []) (ct_size hy3) dX9_total_81 rfl (q_at hy3) rfl rfl tw_228 tw_229 tw_230 tw_43 tw_231 (by decide +kernel) rfl (Nat.le_of_ble_eq_true rfl) (Nat.le_of_ble_eq_true rfl) (Nat.le_of_ble_eq_true rfl) (fun rr M1 hr hle1 => ?_)
          obtain ⟨rfl, hM1⟩ := hr
          obtain rfl := hM1.symm
          exact xw_iret rfl dX9_total_84 ⟨congrArg (fun z => some (Value.int (nI z))) c2, rfl⟩
        · skip
          by_cases v4 : w = nI 4
          · have ht : tot σ w = tot σ (nI 4) := by rw [v4]
            rw [ht]
            rw [v4]
            refine xw_tableIn (off := 84) (tgt := 85) dX9_total_1 (by decide +kernel) (by decide +kernel) (by decide +kernel) rfl ?_
            refine xw_aload_n dX9_total_85 rfl rfl ?_
            refine xw_get (ci := 10) (k := 4) (v := .ref (aX A)) dX9_total_86 hH rfl inX9 (by decide) tw_184 (Or.inl rfl) rfl ?_
            refine xw_get (ci := 4) (k := 3) (v := .int (nI (sC σ).length)) dX9_total_89 k1 rfl inX3 (by decide) tw_147 (Or.inl rfl) rfl ?_
            refine xw_pc (pc2 := 92) rfl ?_
            exact xw_iret rfl dX9_total_92 ⟨rfl, rfl⟩
          · skip
            by_cases v5 : w = nI 5
            · have ht : tot σ w = tot σ (nI 5) := by rw [v5]
              rw [ht]
              rw [v5]
              refine xw_tableIn (off := 92) (tgt := 93) dX9_total_1 (by decide +kernel) (by decide +kernel) (by decide +kernel) rfl ?_
              refine xw_aload_n dX9_total_93 rfl rfl ?_
              refine xw_get (ci := 10) (k := 5) (v := .ref (aC A)) dX9_total_94 hH rfl inX9 (by decide) tw_185 (Or.inl rfl) rfl ?_
              refine xw_get (ci := 3) (k := 3) (v := .int (nI (sA σ))) dX9_total_97 k2 rfl inX2 (by decide) tw_170 (Or.inl rfl) rfl ?_
              exact xw_iret rfl dX9_total_100 ⟨rfl, rfl⟩
            · skip
              by_cases v6 : w = nI 6
              · have ht : tot σ w = tot σ (nI 6) := by rw [v6]
                rw [ht]
                rw [v6]
                refine xw_tableIn (off := 100) (tgt := 101) dX9_total_1 (by decide +kernel) (by decide +kernel) (by decide +kernel) rfl ?_
                refine xw_aload_n dX9_total_101 rfl rfl ?_
                refine xw_get (ci := 10) (k := 8) (v := .int (nI (sK σ).length)) dX9_total_102 hH rfl inX9 (by decide) tw_188 (Or.inl rfl) rfl ?_
                exact xw_iret rfl dX9_total_105 ⟨rfl, rfl⟩
              · skip
                by_cases v7 : w = nI 7
                · have ht : tot σ w = tot σ (nI 7) := by rw [v7]
                  rw [ht]
                  rw [v7]
                  refine xw_tableIn (off := 105) (tgt := 106) dX9_total_1 (by decide +kernel) (by decide +kernel) (by decide +kernel) rfl ?_
                  refine xw_aload_n dX9_total_106 rfl rfl ?_
                  refine xw_get (ci := 10) (k := 9) (v := .int (nI (sTr σ))) dX9_total_107 hH rfl inX9 (by decide) tw_189 (Or.inl rfl) rfl ?_
                  exact xw_iret rfl dX9_total_110 ⟨rfl, rfl⟩
                · skip
                  by_cases v8 : w = nI 8
                  · have ht : tot σ w = tot σ (nI 8) := by rw [v8]
                    rw [ht]
                    rw [v8]
                    refine xw_tableIn (off := 110) (tgt := 111) dX9_total_1 (by decide +kernel) (by decide +kernel) (by decide +kernel) rfl ?_
                    refine xw_aload_n dX9_total_111 rfl rfl ?_
                    refine xw_get (ci := 10) (k := 10) (v := .int (nI (sW σ))) dX9_total_112 hH rfl inX9 (by decide) tw_190 (Or.inl rfl) rfl ?_
                    exact xw_iret rfl dX9_total_115 ⟨rfl, rfl⟩
                  · skip
                    by_cases v9 : w = nI 9
                    · have ht : tot σ w = tot σ (nI 9) := by rw [v9]
                      rw [ht]
                      rw [v9]
                      refine xw_tableIn (off := 115) (tgt := 116) dX9_total_1 (by decide +kernel) (by decide +kernel) (by decide +kernel) rfl ?_
                      refine xw_aload_n dX9_total_116 rfl rfl ?_
                      refine xw_get (ci := 10) (k := 11) (v := .int (nI (sAl σ))) dX9_total_117 hH rfl inX9 (by decide) tw_191 (Or.inl rfl) rfl ?_
                      exact xw_iret rfl dX9_total_120 ⟨rfl, rfl⟩
                    · skip
                      refine xw_tableOut (tgt := 121) dX9_total_1 (show w.toInt < 0 ∨ 9 < w.toInt by have z0 := w_ne (n := 0) (by decide) v0; have z1 := w_ne (n := 1) (by decide) v1; have z2 := w_ne (n := 2) (by decide) v2; have z3 := w_ne (n := 3) (by decide) v3; have z4 := w_ne (n := 4) (by decide) v4; have z5 := w_ne (n := 5) (by decide) v5; have z6 := w_ne (n := 6) (by decide) v6; have z7 := w_ne (n := 7) (by decide) v7; have z8 := w_ne (n := 8) (by decide) v8; have z9 := w_ne (n := 9) (by decide) v9; omega) rfl ?_
                      refine xw_iconst (v := (-1)) dX9_total_121 (by decide) ?_
                      exact xw_iret rfl dX9_total_122 ⟨by unfold tot; rw [if_neg (show ¬ w = 0 from v0), if_neg (show ¬ w = 1 from v1), if_neg (show ¬ w = 2 from v2), if_neg (show ¬ w = 3 from v3), if_neg (show ¬ w = 4 from v4), if_neg (show ¬ w = 5 from v5), if_neg (show ¬ w = 6 from v6), if_neg (show ¬ w = 7 from v7), if_neg (show ¬ w = 8 from v8), if_neg (show ¬ w = 9 from v9)], rfl⟩
end QUERY
