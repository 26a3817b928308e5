/-! THE CLASS: fetch, store -/
def fetchAt (o : Option V2) (σ : hs_S) (i c d : Nat) : hs_S := match o with
  | some v => give σ i c v
  | none => uK σ (sK σ ++ [(i, c, d)])
def fetched (o : Option Nat) (σ : hs_S) (i c : Nat) : hs_S := match o with
  | none => give σ i c (1, 3)
  | some d => fetchAt (sCe σ d) σ i c d
def serveAt (o : Option N3) (σ : hs_S) (d : Nat) (v : V2) : hs_S := match o with
  | none => σ
  | some x => give (uK σ (kdrop d (sK σ))) x.1 x.2.1 v
def serves (d : Nat) (v : V2) : Nat → hs_S → hs_S
  | 0, σ => σ
  | k + 1, σ => if sTr σ ≠ 0 then σ else serves d v k (serveAt (kf σ d).head? σ d v)
def cset (σ : hs_S) (d : Nat) (z : V2) : hs_S := uCe σ (fun x => if x = d then some z else sCe σ x)
def stored (o : Option Nat) (σ : hs_S) (i c : Nat) (z : V2) : hs_S := match o with
  | none => give σ i c (1, 3)
  | some d => if (sCe σ d).isSome = true then uTr σ 3 else serves d z (kf σ d).length (give (cset σ d z) i c z)
section FETCH
variable {G : hx_G} {M M1 : hx_S} {A : hA} {Γ : hG} {σ : hs_S} {γ : hf_S} {b i c d : Nat} {z : V2}
theorem cix_in (h : GS σ) {x y : Int64} (hd : cix σ x y = some d) : ∃ k j, k < sA σ ∧ j < sLe σ k ∧ d = 8 * k + j := by
  have h40 := h.2.2.2.1.1
  unfold cix at hd
  split at hd
  · next z =>
    obtain ⟨z1, z2, z3, z4⟩ := z
    obtain ⟨k, hk, rfl⟩ := pk_lOf z1
    obtain ⟨j, hj, rfl⟩ := pk_lOf z3
    rw [lN_clamp hk] at z4 hd
    rw [lN_clamp hj] at hd
    have hkA := (pk_lLT hk (by omega)).mp z2
    have h8 := h.2.2.2.1.2.1 k hkA
    exact ⟨k, j, hkA, (pk_lLT hj (by omega)).mp z4, (Option.some.inj hd).symm⟩
  · cases hd
theorem GS.keep (h : GS σ) (hr : sNt σ + (sR σ).length + (sK σ).length < 300) (hi : i < (sN σ).length) (hc : c < (sC σ).length) (hd : ∃ k j, k < sA σ ∧ j < sLe σ k ∧ d = 8 * k + j) : GS (uK σ (sK σ ++ [(i, c, d)])) := by
  obtain ⟨k1, k2, k3, k4, k5, k6, k7, k8, k9, k10⟩ := h
  refine ⟨k1, k2, k3, k4, k5, k6, fun x hx => ?_, k8, ⟨?_, k9.2⟩, k10⟩
  · rcases List.mem_append.mp hx with hx | hx
    · exact k7 x hx
    · rw [List.mem_singleton.mp hx]; exact ⟨hi, hc, hd⟩
  · show sNt σ + (sR σ).length + (sK σ ++ [(i, c, d)]).length ≤ 300
    rw [List.length_append, List.length_singleton]; omega
theorem kdrop_mem {l : List N3} {x : N3} (h : x ∈ kdrop d l) : x ∈ l := by
  induction l with
  | nil => cases h
  | cons y ys ih =>
    unfold kdrop at h
    split at h
    · exact List.mem_cons_of_mem _ h
    · rcases List.mem_cons.mp h with h | h
      · rw [h]; exact List.mem_cons_self
      · exact List.mem_cons_of_mem _ (ih h)
theorem kdrop_len {l : List N3} (h : (l.filter (fun x => x.2.2 == d)) ≠ []) : (kdrop d l).length + 1 = l.length := by
  induction l with
  | nil => exact absurd rfl h
  | cons y ys ih =>
    unfold kdrop
    split
    · rfl
    · next hy =>
      rw [List.filter_cons_of_neg (p := fun x : N3 => x.2.2 == d) hy] at h
      rw [List.length_cons, List.length_cons, ih h]
theorem kdrop_le (l : List N3) : (kdrop d l).length ≤ l.length := by
  induction l with
  | nil => exact Nat.le_refl _
  | cons y ys ih =>
    unfold kdrop
    split
    · exact Nat.le_succ _
    · exact Nat.succ_le_succ ih
theorem GS.kd (h : GS σ) : GS (uK σ (kdrop d (sK σ))) := by
  obtain ⟨k1, k2, k3, k4, k5, k6, k7, k8, k9, k10⟩ := h
  refine ⟨k1, k2, k3, k4, k5, k6, fun x hx => k7 x (kdrop_mem hx), k8, ⟨?_, k9.2⟩, k10⟩
  show sNt σ + (sR σ).length + (kdrop d (sK σ)).length ≤ 300
  have := kdrop_le (d := d) (sK σ)
  omega
theorem GS.ce (h : GS σ) (hd : d < 8 * sA σ) (hz : GV (sA σ) z) : GS (cset σ d z) := by
  obtain ⟨k1, k2, k3, k4, k5, k6, k7, k8, k9, k10⟩ := h
  refine ⟨k1, k2, k3, ⟨k4.1, k4.2.1, fun x v hx => ?_⟩, k5, k6, k7, k8, k9, k10⟩
  have hx' : (if x = d then some z else sCe σ x) = some v := hx
  split at hx'
  · next e => cases hx'; exact ⟨e ▸ hd, hz⟩
  · exact k4.2.2 x v hx'
theorem AP.ge {fre : List Nat} {m k : Nat} (h : AP M A fre m k b) : 1500 * k ≤ b := by
  obtain ⟨cap, y, h1, -⟩ := h
  omega
theorem nI_dec (k : Nat) : nI (k + 1) + (-1) = nI k := by rw [show nI (k + 1) + (-1) = nI (k + 1) - 1 from (Int32.sub_eq_add_neg _ _).symm, nI_pred]
theorem ne27 : ¬ ((2, 0) : Nat × Nat) = (7, d) := fun z => absurd (show (2 : Nat) = 7 from congrArg Prod.fst z) (by decide)
theorem ar4 (b k : Nat) : b + 150 + 48 + 1500 * (k + 1) ≤ b + 1700 + 1500 * k := by rw [Nat.mul_succ]; omega
theorem ct_fetchN (h : Rep M A Γ σ γ b) (hb : b + 1700 ≤ 14400000) (hi : i < (sN σ).length) (hc : c < (sC σ).length) : CT G 10 230 mX9_fetch [.ref (aT A), .ref (nad Γ i), .int (nI c), .null] M (RQ M A Γ (fetched none σ i c) γ (b + 1700)) := by
  refine ct_wf fun hw => ?_
  refine ct_go (by decide +kernel) (Nat.le_of_ble_eq_true rfl) (L := [(0, .ref (aT A)), (1, .ref (nad Γ i)), (2, .int (nI c)), (3, .null)]) rfl ?_
  refine xw_aload_nN dX9_fetch_0 rfl rfl ?_
  refine xw_ifnonnullN dX9_fetch_1 ?_
  refine xw_aload_n dX9_fetch_4 rfl rfl ?_
  refine xw_aload_n dX9_fetch_5 rfl rfl ?_
  refine xw_new (ci := 9) (fs := [.int 0, .long 0]) tyX8 dX9_fetch_6 rfl inX8 tyX8_ok (by decide) tw_73 tw_74 tw_40 (fun j hj => by rcases (show j = 0 ∨ j = 1 by omega) with rfl | rfl <;> rfl) ?_
  refine xw_dup dX9_fetch_9 rfl ?_
  refine xw_iconst (v := 1) dX9_fetch_10 (by decide) ?_
  refine xw_ldc2 (v := 3) tw_715 dX9_fetch_11 ?_
  refine xw_callI (q2 := mX8_init) (n2 := 2) (Bs := [.int 1, .long 3]) (rest := [.ref (Sz M), .ref (nad Γ i), .ref (aT A)]) (ct_Value (a := Sz M) nv_0) rfl dX9_fetch_14 rfl rfl tw_75 tw_76 tw_40 tw_77 (by decide +kernel) rfl (Nat.le_of_ble_eq_true rfl) (Nat.le_of_ble_eq_true rfl) (Nat.le_of_ble_eq_true rfl) (fun rr M1 hr hle1 => ?_)
  obtain ⟨rfl, hM1⟩ := hr
  rw [oput_oput] at hM1
  obtain rfl : M1 = nv M (1, 3) := hM1
  refine xw_iload_n dX9_fetch_17 rfl rfl ?_
  have hR := h.nval hw (v := (1, 3))
  have q1 := ct_give (G := G) hR (by omega) hi hc nv_at (Or.inr (Or.inl ⟨rfl, 3, by decide, by decide, rfl⟩))
  refine xw_callV (q2 := mX9_give) (n2 := 3) (ci := 10) (Bs := [.ref (nad Γ i), .ref (Sz M), .int (nI c)]) (rest := []) (q1) dX9_fetch_18 rfl (o_at hR.1) rfl rfl tw_627 tw_629 tw_8 tw_39 tw_630 (by decide +kernel) rfl (Nat.le_of_ble_eq_true rfl) (Nat.le_of_ble_eq_true rfl) (Nat.le_of_ble_eq_true rfl) (fun rr M1 hr hle1 => ?_)
  obtain ⟨rfl, γ1, hR1, hcd1, hX1⟩ := hr
  refine xw_goto (tgt := 71) dX9_fetch_21 (by decide) ?_
  exact xw_vret rfl dX9_fetch_71 ⟨rfl, γ1, hR1.mono (by omega), hcd1, (xe_nv hw).tr hX1⟩
theorem ct_fetch {a : Nat} (h : Rep M A Γ σ γ b) (hb : b + 1700 ≤ 14400000) (hrm : sNt σ + (sR σ).length + (sK σ).length < 300) (hi : i < (sN σ).length) (hc : c < (sC σ).length) (hd : gcd γ d = some a) (hdd : ∃ k j, k < sA σ ∧ j < sLe σ k ∧ d = 8 * k + j) : CT G 10 230 mX9_fetch [.ref (aT A), .ref (nad Γ i), .int (nI c), .ref a] M (RQ M A Γ (fetched (some d) σ i c) γ (b + 1700)) := by
  refine ct_wf fun hw => ?_
  refine ct_go (by decide +kernel) (Nat.le_of_ble_eq_true rfl) (L := [(0, .ref (aT A)), (1, .ref (nad Γ i)), (2, .int (nI c)), (3, .ref a)]) rfl ?_
  have hH := h.hdr
  obtain ⟨c1, c2, w, c3, c4⟩ := h.2.1.2.2.2.2.1.2.2.2.2.1 d a hd
  have hnv := h.2.1.2.1.2.2.2.2
  refine xw_aload_n dX9_fetch_0 rfl rfl ?_
  refine xw_ifnonnull (tgt := 24) dX9_fetch_1 (by decide) ?_
  refine xw_aload_n dX9_fetch_24 rfl rfl ?_
  rcases c4 with ⟨e0, hwn⟩ | ⟨v, e0, e1, e2⟩
  · rw [hwn] at c3
    refine xw_callV (q2 := mX1_isWritten) (n2 := 0) (ci := 2) (Bs := []) (rest := []) (ct_isWritten c3 hnv) dX9_fetch_25 rfl (o_at c3) rfl rfl tw_716 tw_717 tw_718 tw_62 tw_719 (by decide +kernel) rfl (Nat.le_of_ble_eq_true rfl) (Nat.le_of_ble_eq_true rfl) (Nat.le_of_ble_eq_true rfl) (fun rr M1 hr hle1 => ?_)
    obtain ⟨rfl, hM1⟩ := hr
    obtain rfl := hM1.symm
    rw [if_pos rfl]
    refine xw_if_eq (tgt := 44) dX9_fetch_28 (by decide) (fun _ => ?_) (fun zz => absurd (by decide) zz)
    refine xw_aload_n dX9_fetch_44 rfl rfl ?_
    refine xw_get (ci := 2) (k := 0) (v := .ref (gkl γ d)) dX9_fetch_45 c3 rfl inX1 (by decide) tw_698 (Or.inl rfl) rfl ?_
    refine xw_aload_n dX9_fetch_48 rfl rfl ?_
    refine xw_get (ci := 10) (k := 2) (v := .ref (aF A)) dX9_fetch_49 hH rfl inX9 (by decide) tw_182 (Or.inl rfl) rfl ?_
    refine xw_aload_n dX9_fetch_52 rfl rfl ?_
    refine xw_iload_n dX9_fetch_53 rfl rfl ?_
    refine xw_pc (pc2 := 54) rfl ?_
    refine xw_callV (q2 := mX5_take) (n2 := 2) (ci := 6) (Bs := [.ref (nad Γ i), .int (nI c)]) (rest := [.ref (gkl γ d)]) (ct_take h.2.1 (by omega)) dX9_fetch_54 rfl (o_at h.2.1.2.1.2.2.2.1) rfl rfl tw_359 tw_360 tw_361 tw_44 tw_362 (by decide +kernel) rfl (Nat.le_of_ble_eq_true rfl) (Nat.le_of_ble_eq_true rfl) (Nat.le_of_ble_eq_true rfl) (fun rr M1 hr hle1 => ?_)
    obtain ⟨f, γ1, rfl, hR, hfl, hf3, hk2, hX⟩ := hr
    have hcd1 : gcd γ1 d = some a := by rw [hk2.2.1.1]; exact hd
    have hkl : gkl γ1 d = gkl γ d := by rw [hk2.2.1.2]
    obtain ⟨⟨y, hy⟩, hro⟩ := hR.2.1.2.1 (7, d) (act_7 hcd1)
    rw [ad_7, hkl] at hy hro
    have hro2 := (hR.2.1.2.1 (2, 0) act_2).2
    obtain ⟨va, w0, w1, w2, p1, p2, -⟩ := hR.2.1.2.2.1 f hfl.1
    have hH1 := hX.so hH (by decide)
    have hH2 : ∀ x v, So (addq M1 (gkl γ d) x v) 10 (aT A) = some [.ref (aV A), .ref (aN A), .ref (aF A), .ref (aR A), .ref (aX A), .ref (aC A), .ref (aQ A), .int (nI (sNt σ)), .int (nI (sK σ).length), .int (nI (sTr σ)), .int (nI (sW σ)), .int (nI (sAl σ)), .int (nI (sB σ))] := fun x v => by rw [So_addq]; exact hH1
    refine xw_wf fun hw1 => ?_
    refine xw_callV (q2 := mJx4a65c_add_9ea2d) (n2 := 1) (ci := 0) (Bs := [.ref f]) (rest := []) (ct_add (ci := 5) hy (hR.2.2.2.2.2.2.cap (by omega) hy) (by decide) p2 rfl ks_F (fun g hg => hR.isF (hR.inMD (act_7 hcd1) hg))) dX9_fetch_57 rfl (q_at hy) rfl rfl tw_409 tw_280 tw_281 tw_43 tw_282 (by decide +kernel) rfl (Nat.le_of_ble_eq_true rfl) (Nat.le_of_ble_eq_true rfl) (Nat.le_of_ble_eq_true rfl) (fun rr M1 hr hle1 => ?_)
    obtain ⟨rfl, rfl⟩ := hr
    refine xw_pop dX9_fetch_60 rfl ?_
    refine xw_aload_n dX9_fetch_61 rfl rfl ?_
    refine xw_dup dX9_fetch_62 rfl ?_
    refine xw_get (ci := 10) (k := 8) (v := .int (nI (sK σ).length)) dX9_fetch_63 (hH2 _ _) rfl inX9 (by decide) tw_188 (Or.inl rfl) rfl ?_
    refine xw_iconst (v := 1) dX9_fetch_66 (by decide) ?_
    refine xw_iadd dX9_fetch_67 ?_
    rw [nI_1]
    refine xw_put (ci := 10) (k := 8) tyX9 dX9_fetch_68 (hH2 _ _) rfl inX9 tyX9_ok nmX9 (by decide) tw_188 (Or.inl rfl) rfl rfl rfl rfl (Nat.le_of_ble_eq_true rfl) ?_
    dsimp only [List.set]
    have hl : (sK σ ++ [(i, c, d)]).length = (sK σ).length + 1 := by rw [List.length_append, List.length_singleton]
    have hfe : fetched (some d) σ i c = uK σ (sK σ ++ [(i, c, d)]) := by show fetchAt (sCe σ d) σ i c d = _; rw [e0]; rfl
    rw [hfe]
    refine xw_vret rfl dX9_fetch_71 ⟨rfl, _, ⟨?_, (hR.list (r0 := (7, d)) (r1 := (7, d)) (f := f) (σ' := uK σ (sK σ ++ [(i, c, d)])) (act_7 hcd1) ?_ ?_ (hR.2.2.1.keep hfl hcd1 hf3) ⟨rfl, rfl, rfl, rfl, rfl, rfl⟩ ?_).hd, h.2.2.keep hrm hi hc hdd⟩, hk2.2.1, hX.xe.tr (Ext.tr (ext_addq.mono (fun _ _ => False.elim) (fun _ _ => trivial) (fun _ => False.elim) (fun _ => False.elim)) xe_hd)⟩
    · rw [So_oput, if_pos ⟨rfl, rfl⟩]
      show (some _ : Option (List Value)) = some [.ref (aV A), .ref (aN A), .ref (aF A), .ref (aR A), .ref (aX A), .ref (aC A), .ref (aQ A), .int (nI (sNt σ)), .int (nI (sK σ ++ [(i, c, d)]).length), .int (nI (sTr σ)), .int (nI (sW σ)), .int (nI (sAl σ)), .int (nI (sB σ))]
      rw [hl]
    · rw [ad_7, hkl]; exact ext_addq
    · rw [ad_7, hkl]; exact lq_addq
    · rw [if_neg ne27]
      refine (hR.2.2.2.2.2.2.add hw1 hy (fun z => ?_)).kk ?_
      · rw [z] at hro; rw [ad_2, hro] at hro2; exact ne27 hro2.symm
      · show _ + 1500 * (sK σ ++ [(i, c, d)]).length ≤ _
        rw [hl]; exact ar4 _ _
  · skip
    refine xw_callV (q2 := mX1_isWritten) (n2 := 0) (ci := 2) (Bs := []) (rest := []) (ct_isWritten c3 e1) dX9_fetch_25 rfl (o_at c3) rfl rfl tw_716 tw_717 tw_718 tw_62 tw_719 (by decide +kernel) rfl (Nat.le_of_ble_eq_true rfl) (Nat.le_of_ble_eq_true rfl) (Nat.le_of_ble_eq_true rfl) (fun rr M1 hr hle1 => ?_)
    obtain ⟨rfl, hM1⟩ := hr
    obtain rfl := hM1.symm
    rw [if_neg e2]
    refine xw_if_eq (tgt := 44) dX9_fetch_28 (by decide) (fun zz => absurd zz (by decide)) (fun _ => ?_)
    refine xw_aload_n dX9_fetch_31 rfl rfl ?_
    refine xw_aload_n dX9_fetch_32 rfl rfl ?_
    refine xw_aload_n dX9_fetch_33 rfl rfl ?_
    refine xw_get (ci := 2) (k := 1) (v := .ref w) dX9_fetch_34 c3 rfl inX1 (by decide) tw_701 (Or.inl rfl) rfl ?_
    refine xw_iload_n dX9_fetch_37 rfl rfl ?_
    have q1 := ct_give (G := G) h (by omega) hi hc e1 (h.2.2.2.2.2.1.2.2 d v e0).2
    refine xw_callV (q2 := mX9_give) (n2 := 3) (ci := 10) (Bs := [.ref (nad Γ i), .ref w, .int (nI c)]) (rest := []) (q1) dX9_fetch_38 rfl (o_at h.1) rfl rfl tw_627 tw_629 tw_8 tw_39 tw_630 (by decide +kernel) rfl (Nat.le_of_ble_eq_true rfl) (Nat.le_of_ble_eq_true rfl) (Nat.le_of_ble_eq_true rfl) (fun rr M1 hr hle1 => ?_)
    obtain ⟨rfl, γ1, hR1, hcd1, hX1⟩ := hr
    refine xw_goto (tgt := 71) dX9_fetch_41 (by decide) ?_
    have hfe : fetched (some d) σ i c = give σ i c v := by show fetchAt (sCe σ d) σ i c d = _; rw [e0]; rfl
    rw [hfe]
    exact xw_vret rfl dX9_fetch_71 ⟨rfl, γ1, hR1.mono (by omega), hcd1, hX1⟩
end FETCH
