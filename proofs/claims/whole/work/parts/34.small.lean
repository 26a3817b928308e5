/-! THE CLASS: small methods of go -/
/-- a new Value -/
def nv (M : hx_S) (v : V2) : hx_S := oput (grow M 2 9) 9 (Sz M) (some [.int v.1, .long v.2])
def errOf (v : V2) (w : Nat) : Nat := if w = 0 then 5 else if v.1 = 1 then v.2.toNatClampNeg else if w = 2 ∧ v.1 ≠ 0 then 4 else if w = 3 ∧ v.1 ≠ 2 then 4 else 5
def reck (o : Nat) (n : Int32) (x y : V2) : V2 := if o = 1 then (0, x.2 + y.2) else if o = 2 then (0, x.2 - y.2) else if o = 3 then (0, x.2 * y.2) else if o = 4 then (if y.2 = 0 then (1, 1) else (0, x.2 / y.2)) else if o = 5 then (0, if x.2 < y.2 then 1 else 0) else if o = 6 then (0, n.toInt64) else x
/-- which cell -/
def cix (σ : hs_S) (x y : Int64) : Option Nat := if ¬ x < 0 ∧ x < lN (sA σ) ∧ ¬ y < 0 ∧ y < lN (sLe σ x.toNatClampNeg) then some (8 * x.toNatClampNeg + y.toNatClampNeg) else none
theorem lN_clamp {n : Nat} (h : n < 2 ^ 63) : (lN n).toNatClampNeg = n := by
  have := pk_lT h
  unfold Int64.toNatClampNeg
  omega
section SMALL
variable {G : hx_G} {M : hx_S} {A : hA} {Γ : hG} {σ : hs_S} {γ : hf_S} {b : Nat} {v : V2}
theorem nv_at : So (nv M v) 9 (Sz M) = some [.int v.1, .long v.2] := by unfold nv; rw [So_oput, if_pos ⟨rfl, rfl⟩]
theorem ext_nv (hw : Wf M) : Ext M (nv M v) no2 no1 no1 no1 := ext_new hw
theorem RepB.nval (h : RepB M A Γ σ γ b) (hw : Wf M) : RepB (nv M v) A Γ σ γ (b + 28) := h.ext0 (ext_nv hw) (fun _ _ => False.elim) ((h.2.2.2.2.2.2.one (M1 := nv M v) (s := 2) hw rfl rfl (fun _ => rfl)).mono (Nat.le_refl _))
theorem Rep.nval (h : Rep M A Γ σ γ b) (hw : Wf M) : Rep (nv M v) A Γ σ γ (b + 28) := ⟨(ext_nv hw).so h.1 id, h.2.1.nval hw, h.2.2⟩
theorem xe_nv (hw : Wf M) : XE A M (nv M v) := (ext_nv hw).mono (fun _ _ => False.elim) (fun _ => False.elim) (fun _ => False.elim) (fun _ => False.elim)
theorem ct_nodeAt (h : Rep M A Γ σ γ b) (hb : b ≤ 14400000) {k : Int32} : CT G 3 64 mX9_nodeAt [.ref (aT A), .int k] M (fun r M1 => M1 = M ∧ ((r = some .null ∧ ¬ (¬ k < 0 ∧ k < nI (sN σ).length)) ∨ ∃ j, j < (sN σ).length ∧ k = nI j ∧ r = some (.ref (nad Γ j)))) := by
  refine ct_go (by decide +kernel) (Nat.le_of_ble_eq_true rfl) (L := [(0, .ref (aT A)), (1, .int k)]) rfl ?_
  have hH : So M 10 (aT A) = some [.ref (aV A), .ref (aN A), .ref (aF A), .ref (aR A), .ref (aX A), .ref (aC A), .ref (aQ A), .int (nI (sNt σ)), .int (nI (sK σ).length), .int (nI (sTr σ)), .int (nI (sW σ)), .int (nI (sAl σ)), .int (nI (sB σ))] := h.1
  obtain ⟨⟨y, hy⟩, -⟩ := h.2.1.1
  have hcap := h.2.1.2.2.2.2.2.2.cap hb hy
  simp only at hcap
  have hlen : ((List.range (sN σ).length).map (nad Γ)).length = (sN σ).length := by simp
  have h40 := h.2.2.1
  refine xw_iload_n dX9_nodeAt_0 rfl rfl ?_
  refine xw_if_lt (tgt := 15) dX9_nodeAt_1 (by decide) (fun c1 => ?_) (fun c1 => ?_)
  · skip
    refine xw_null dX9_nodeAt_15 ?_
    refine xw_goto (tgt := 30) dX9_nodeAt_16 (by decide) ?_
    exact xw_aret rfl (Or.inl ⟨_, rfl⟩) (Or.inl rfl) dX9_nodeAt_30 ⟨rfl, Or.inl ⟨rfl, fun z => z.1 c1⟩⟩
  · skip
    refine xw_iload_n dX9_nodeAt_4 rfl rfl ?_
    refine xw_aload_n dX9_nodeAt_5 rfl rfl ?_
    refine xw_get (ci := 10) (k := 1) (v := .ref (aN A)) dX9_nodeAt_6 hH rfl inX9 (by decide) tw_181 (Or.inl rfl) rfl ?_
    refine xw_callV (q2 := mJx4a65c_size_8abf5) (n2 := 0) (ci := 0) (Bs := []) (rest := [.int k]) (ct_size hy) dX9_nodeAt_9 rfl (q_at hy) rfl rfl tw_228 tw_229 tw_230 tw_43 tw_231 (by decide +kernel) rfl (Nat.le_of_ble_eq_true rfl) (Nat.le_of_ble_eq_true rfl) (Nat.le_of_ble_eq_true rfl) (fun rr M1 hr hle1 => ?_)
    obtain ⟨rfl, hM1⟩ := hr
    obtain rfl := hM1.symm
    rw [show nI ((List.range (sN σ).length).map (nad Γ), y).1.length = nI (sN σ).length from congrArg nI hlen]
    refine xw_icmp_lt (tgt := 19) dX9_nodeAt_12 (by decide) (fun c2 => ?_) (fun c2 => ?_)
    · obtain ⟨j, hj, rfl, -⟩ := pk_mu c1 (show ¬ nI (sN σ).length ≤ k from fun z => absurd c2 (by rw [Int32.not_lt]; exact z)) (show (sN σ).length < 2 ^ 31 by omega)
      refine xw_aload_n dX9_nodeAt_19 rfl rfl ?_
      refine xw_get (ci := 10) (k := 1) (v := .ref (aN A)) dX9_nodeAt_20 hH rfl inX9 (by decide) tw_181 (Or.inl rfl) rfl ?_
      refine xw_iload_n dX9_nodeAt_23 rfl rfl ?_
      refine xw_callV (q2 := mJx4a65c_get_915e3) (n2 := 1) (ci := 0) (Bs := [.int (nI j)]) (rest := []) (ct_get hy (i := j) (by show j < ((List.range (sN σ).length).map (nad Γ)).length; omega) (by show y.1 < 2 ^ 31; omega)) dX9_nodeAt_24 rfl (q_at hy) rfl rfl tw_232 tw_233 tw_234 tw_43 tw_235 (by decide +kernel) rfl (Nat.le_of_ble_eq_true rfl) (Nat.le_of_ble_eq_true rfl) (Nat.le_of_ble_eq_true rfl) (fun rr M1 hr hle1 => ?_)
      obtain ⟨rfl, hM1⟩ := hr
      obtain rfl := hM1.symm
      refine Eq.mp (congrArg (fun z => XW G 3 64 mX9_nodeAt [.ref (aT A), .int (nI j)] M _ _ _ _ [.ref z]) (show nad Γ j = ((List.range (sN σ).length).map (nad Γ))[j] by simp)) ?_
      refine xw_cast (ci := 7) dX9_nodeAt_27 (h.2.1.node hj) rfl tw_246 ?_
      exact xw_aret rfl (Or.inl ⟨_, rfl⟩) (Or.inr ⟨_, rfl⟩) dX9_nodeAt_30 ⟨rfl, Or.inr ⟨j, hj, rfl, rfl⟩⟩
    · skip
      refine xw_null dX9_nodeAt_15 ?_
      refine xw_goto (tgt := 30) dX9_nodeAt_16 (by decide) ?_
      exact xw_aret rfl (Or.inl ⟨_, rfl⟩) (Or.inl rfl) dX9_nodeAt_30 ⟨rfl, Or.inl ⟨rfl, fun z => c2 z.2⟩⟩
theorem ct_errorOf {w wt na : Nat} (hwv : So M 9 w = some [.int v.1, .long v.2]) (hv : wt = 0 ∨ GV na v) (hwt : wt < 4) : CT G 0 0 mX9_errorOf [.ref w, .int (nI wt)] M (fun r M1 => r = some (.int (nI (errOf v wt))) ∧ M1 = M) := by
  refine ct_go (by decide +kernel) (Nat.le_of_ble_eq_true rfl) (L := [(0, .ref w), (1, .int (nI wt))]) rfl ?_
  refine xw_iload_n dX9_errorOf_0 rfl rfl ?_
  refine xw_if_ne (tgt := 6) dX9_errorOf_1 (by decide) (fun c1 => ?_) (fun c1 => ?_)
  · have h0 : ¬ wt = 0 := fun z => c1 (by rw [z]; rfl)
    have hv' : GV na v := hv.resolve_left h0
    refine xw_aload_n dX9_errorOf_6 rfl rfl ?_
    refine xw_get (ci := 9) (k := 0) (v := .int v.1) dX9_errorOf_7 hwv rfl inX8 (by decide) tw_82 (Or.inl rfl) rfl ?_
    refine xw_iconst (v := 1) dX9_errorOf_10 (by decide) ?_
    refine xw_pc (pc2 := 11) rfl ?_
    refine xw_icmp_ne (tgt := 20) dX9_errorOf_11 (by decide) (fun c2 => ?_) (fun c2 => ?_)
    · have e1 : errOf v wt = if wt = 2 ∧ v.1 ≠ 0 then 4 else if wt = 3 ∧ v.1 ≠ 2 then 4 else 5 := by unfold errOf; rw [if_neg h0, if_neg c2]
      refine xw_iload_n dX9_errorOf_20 rfl rfl ?_
      refine xw_iconst (v := 2) dX9_errorOf_21 (by decide) ?_
      refine xw_icmp_ne (tgt := 34) dX9_errorOf_22 (by decide) (fun c3 => ?_) (fun c3 => ?_)
      · have h2 : ¬ wt = 2 := fun z => c3 (by rw [z]; decide)
        rw [if_neg (fun z => h2 z.1)] at e1
        refine xw_iload_n dX9_errorOf_34 rfl rfl ?_
        refine xw_iconst (v := 3) dX9_errorOf_35 (by decide) ?_
        refine xw_icmp_ne (tgt := 49) dX9_errorOf_36 (by decide) (fun c4 => ?_) (fun c4 => ?_)
        · have h3 : ¬ wt = 3 := fun z => c4 (by rw [z]; decide)
          rw [if_neg (fun z => h3 z.1)] at e1
          refine xw_iconst (v := 5) dX9_errorOf_49 (by decide) ?_
          exact xw_iret rfl dX9_errorOf_50 ⟨by rw [e1]; rfl, rfl⟩
        · have h3 : wt = 3 := (nI_eq (by omega) (by decide)).mp (show nI wt = nI 3 from c4)
          refine xw_aload_n dX9_errorOf_39 rfl rfl ?_
          refine xw_get (ci := 9) (k := 0) (v := .int v.1) dX9_errorOf_40 hwv rfl inX8 (by decide) tw_82 (Or.inl rfl) rfl ?_
          refine xw_iconst (v := 2) dX9_errorOf_43 (by decide) ?_
          refine xw_icmp_eq (tgt := 49) dX9_errorOf_44 (by decide) (fun c5 => ?_) (fun c5 => ?_)
          · rw [if_neg (fun z => z.2 c5)] at e1
            refine xw_iconst (v := 5) dX9_errorOf_49 (by decide) ?_
            exact xw_iret rfl dX9_errorOf_50 ⟨by rw [e1]; rfl, rfl⟩
          · rw [if_pos ⟨h3, c5⟩] at e1
            refine xw_iconst (v := 4) dX9_errorOf_47 (by decide) ?_
            exact xw_iret rfl dX9_errorOf_48 ⟨by rw [e1]; rfl, rfl⟩
      · have h2 : wt = 2 := (nI_eq (by omega) (by decide)).mp (show nI wt = nI 2 from c3)
        refine xw_aload_n dX9_errorOf_25 rfl rfl ?_
        refine xw_get (ci := 9) (k := 0) (v := .int v.1) dX9_errorOf_26 hwv rfl inX8 (by decide) tw_82 (Or.inl rfl) rfl ?_
        refine xw_if_eq (tgt := 34) dX9_errorOf_29 (by decide) (fun c5 => ?_) (fun c5 => ?_)
        · rw [if_neg (fun z => z.2 c5), if_neg (fun z => by omega)] at e1
          have h3 : ¬ wt = 3 := by omega
          refine xw_iload_n dX9_errorOf_34 rfl rfl ?_
          refine xw_iconst (v := 3) dX9_errorOf_35 (by decide) ?_
          refine xw_pc (pc2 := 36) rfl ?_
          refine xw_icmp_ne (tgt := 49) dX9_errorOf_36 (by decide) (fun _ => ?_) (fun zz => absurd zz (show ¬ nI wt = nI 3 from fun z => h3 ((nI_eq (by omega) (by decide)).mp z)))
          refine xw_iconst (v := 5) dX9_errorOf_49 (by decide) ?_
          exact xw_iret rfl dX9_errorOf_50 ⟨by rw [e1]; rfl, rfl⟩
        · rw [if_pos ⟨h2, c5⟩] at e1
          refine xw_iconst (v := 4) dX9_errorOf_32 (by decide) ?_
          exact xw_iret rfl dX9_errorOf_33 ⟨by rw [e1]; rfl, rfl⟩
    · skip
      refine xw_aload_n dX9_errorOf_14 rfl rfl ?_
      refine xw_get (ci := 9) (k := 1) (v := .long v.2) dX9_errorOf_15 hwv rfl inX8 (by decide) tw_84 (Or.inl rfl) rfl ?_
      refine xw_l2i dX9_errorOf_18 ?_
      refine xw_iret rfl dX9_errorOf_19 ⟨?_, rfl⟩
      unfold errOf
      rw [if_neg h0, if_pos c2]
      rcases hv' with z | ⟨-, e, he1, he2, he3⟩ | z
      · rw [c2] at z; exact absurd z (by decide)
      · rw [he3, lN_clamp (by omega), lN_i]
      · rw [c2] at z; exact absurd z.1 (by decide)
  · have h0 : wt = 0 := (nI_eq (by omega) (by decide)).mp (show nI wt = nI 0 from c1)
    refine xw_iconst (v := 5) dX9_errorOf_4 (by decide) ?_
    exact xw_iret rfl dX9_errorOf_5 ⟨by unfold errOf; rw [if_pos h0]; rfl, rfl⟩
end SMALL
