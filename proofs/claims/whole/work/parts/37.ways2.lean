/-! THE CLASS: choose, move, enterCall, leaveCall -/
section WAYS2
variable {G : hx_G} {M M1 : hx_S} {A : hA} {Γ : hG} {σ : hs_S} {γ : hf_S} {b : Nat} {v : V2}
theorem Rep.tr {n : Nat} (h : Rep M A Γ σ γ b) (hn : n ≤ 3) : Rep (oput M 10 (aT A) (some [.ref (aV A), .ref (aN A), .ref (aF A), .ref (aR A), .ref (aX A), .ref (aC A), .ref (aQ A), .int (nI (sNt σ)), .int (nI (sK σ).length), .int (nI n), .int (nI (sW σ)), .int (nI (sAl σ)), .int (nI (sB σ))])) A Γ (uTr σ n) γ b := ⟨by rw [So_oput, if_pos ⟨rfl, rfl⟩]; rfl, h.2.1.hd.cg ⟨rfl, rfl, rfl, rfl, rfl, rfl⟩ rfl rfl rfl, h.2.2.tr hn⟩
theorem Rep.hdr (h : Rep M A Γ σ γ b) : So M 10 (aT A) = some [.ref (aV A), .ref (aN A), .ref (aF A), .ref (aR A), .ref (aX A), .ref (aC A), .ref (aQ A), .int (nI (sNt σ)), .int (nI (sK σ).length), .int (nI (sTr σ)), .int (nI (sW σ)), .int (nI (sAl σ)), .int (nI (sB σ))] := h.1
theorem sides (l : List (Nat × Nat × Nat)) (s t : Nat) (h : s ≠ t) : (l.filter (fun a => a.1 == s)).length + (l.filter (fun a => a.1 == t)).length ≤ l.length := by
  induction l with
  | nil => exact Nat.le_refl _
  | cons x xs ih =>
    by_cases h0 : x.1 = s
    · rw [List.filter_cons_of_pos (by simp [h0]), List.filter_cons_of_neg (by simp [h0, h])]; simp only [List.length_cons]; omega
    · by_cases h1 : x.1 = t
      · rw [List.filter_cons_of_neg (by simp [h0]), List.filter_cons_of_pos (by simp [h1])]; simp only [List.length_cons]; omega
      · rw [List.filter_cons_of_neg (by simp [h0]), List.filter_cons_of_neg (by simp [h1])]; simp only [List.length_cons]; omega
theorem m250 {a c : Nat} (h : a ≤ c) : 250 * a ≤ 250 * c := Nat.mul_le_mul_left 250 h
theorem ct_choose (h : Rep M A Γ σ γ b) (hb : b + 3100 ≤ 14400000) {i c wx wy : Nat} {x y : V2} (hi : i < (sN σ).length) (hc : c < (sC σ).length) (hwx : So M 9 wx = some [.int x.1, .long x.2]) (hwy : So M 9 wy = some [.int y.1, .long y.2]) (hx : GV (sA σ) x) (hy : GV (sA σ) y) : CT G 10 231 mX9_choose [.ref (aT A), .ref (nad Γ i), .int (nI c), .ref wx, .ref wy] M (RQ M A Γ (choose σ i c x y) γ (b + 1600)) := by
  refine ct_wf fun hw => ?_
  refine ct_go (by decide +kernel) (Nat.le_of_ble_eq_true rfl) (L := [(0, .ref (aT A)), (1, .ref (nad Γ i)), (2, .int (nI c)), (3, .ref wx), (4, .ref wy)]) rfl ?_
  have hl6 := (h.2.2.2.1 i _ (nd_at hi)).2.1
  have hsd := sides (nd σ i).2.2 0 1 (by decide)
  have hs0 := m250 (Nat.le_trans (Nat.le_add_right _ _) (Nat.le_trans hsd hl6))
  have hs1 := m250 (Nat.le_trans (Nat.le_add_left _ _) (Nat.le_trans hsd hl6))
  have hs2 := m250 (Nat.le_trans hsd hl6)
  rw [Nat.mul_add] at hs2
  refine xw_aload dX9_choose_0 rfl ?_
  refine xw_get (ci := 9) (k := 0) (v := .int y.1) dX9_choose_2 hwy rfl inX8 (by decide) tw_82 (Or.inl rfl) rfl ?_
  refine xw_if_ne (tgt := 31) dX9_choose_5 (by decide) (fun c1 => ?_) (fun c1 => ?_)
  · have e0 : choose σ i c x y = giveS (giveS σ i 0 c (if y.1 = 1 then y else (1, 4))) i 1 c (if y.1 = 1 then y else (1, 4)) := by unfold choose; rw [if_neg c1]
    have tail : ∀ (M' : hx_S) (w : Nat), Rep M' A Γ σ γ (b + 28) → So M' 9 w = some [.int (if y.1 = 1 then y else (1, 4)).1, .long (if y.1 = 1 then y else (1, 4)).2] → GV (sA σ) (if y.1 = 1 then y else (1, 4)) → XE A M M' → XW G 10 231 mX9_choose [.ref (aT A), .ref (nad Γ i), .int (nI c), .ref wx, .ref wy] M (RQ M A Γ (choose σ i c x y) γ (b + 1600)) M' 56 [(0, .ref (aT A)), (1, .ref (nad Γ i)), (2, .int (nI c)), (3, .ref wx), (4, .ref wy)] [.ref w] := by
      intro M' w hR hwv hgv hXX
      refine xw_astore (L2 := [(5, .ref w), (0, .ref (aT A)), (1, .ref (nad Γ i)), (2, .int (nI c)), (3, .ref wx), (4, .ref wy)]) dX9_choose_56 (by decide) rfl ?_
      refine xw_aload_n dX9_choose_58 rfl rfl ?_
      refine xw_aload_n dX9_choose_59 rfl rfl ?_
      refine xw_iconst (v := 0) dX9_choose_60 (by decide) ?_
      refine xw_aload dX9_choose_61 rfl ?_
      refine xw_iload_n dX9_choose_63 rfl rfl ?_
      have q1 := ct_giveOnSide (G := G) (s := 0) hR (by omega) hi (by decide) hc hwv hgv
      refine xw_callV (q2 := mX9_giveOnSide) (n2 := 4) (ci := 10) (Bs := [.ref (nad Γ i), .int 0, .ref w, .int (nI c)]) (rest := []) (q1) dX9_choose_64 rfl (o_at hR.1) rfl rfl tw_636 tw_638 tw_10 tw_39 tw_639 (by decide +kernel) rfl (Nat.le_of_ble_eq_true rfl) (Nat.le_of_ble_eq_true rfl) (Nat.le_of_ble_eq_true rfl) (fun rr M1 hr hle1 => ?_)
      obtain ⟨rfl, γ1, hR1, hcd1, hX1⟩ := hr
      have hsm : same9 σ (giveS σ i 0 c (if y.1 = 1 then y else (1, 4))) := gives_same _ _ _ _ _
      refine xw_aload_n dX9_choose_67 rfl rfl ?_
      refine xw_aload_n dX9_choose_68 rfl rfl ?_
      refine xw_iconst (v := 1) dX9_choose_69 (by decide) ?_
      refine xw_aload dX9_choose_70 rfl ?_
      refine xw_iload_n dX9_choose_72 rfl rfl ?_
      refine xw_pc (pc2 := 73) rfl ?_
      have q2 := ct_giveOnSide (G := G) (i := i) (s := 1) (c := c) (w := w) (v := (if y.1 = 1 then y else (1, 4))) hR1 (by have := hs0; omega) (by rw [hsm.1.1]; exact hi) (by decide) (by rw [hsm.1.2.1]; exact hc) (hX1.val hwv) (by rw [hsm.1.2.2.1]; exact hgv)
      rw [nd_cg hsm.1.1] at q2
      refine xw_callV (q2 := mX9_giveOnSide) (n2 := 4) (ci := 10) (Bs := [.ref (nad Γ i), .int 1, .ref w, .int (nI c)]) (rest := []) (q2) dX9_choose_73 rfl (o_at hR1.1) rfl rfl tw_636 tw_638 tw_10 tw_39 tw_639 (by decide +kernel) rfl (Nat.le_of_ble_eq_true rfl) (Nat.le_of_ble_eq_true rfl) (Nat.le_of_ble_eq_true rfl) (fun rr M1 hr hle1 => ?_)
      obtain ⟨rfl, γ2, hR2, hcd2, hX2⟩ := hr
      rw [e0]
      exact xw_vret rfl dX9_choose_76 ⟨rfl, γ2, hR2.mono (by have := hs2; omega), ⟨hcd2.1.trans hcd1.1, hcd2.2.trans hcd1.2⟩, hXX.tr (hX1.tr hX2)⟩
    refine xw_aload dX9_choose_31 rfl ?_
    refine xw_get (ci := 9) (k := 0) (v := .int y.1) dX9_choose_33 hwy rfl inX8 (by decide) tw_82 (Or.inl rfl) rfl ?_
    refine xw_iconst (v := 1) dX9_choose_36 (by decide) ?_
    refine xw_icmp_ne (tgt := 45) dX9_choose_37 (by decide) (fun c2 => ?_) (fun c2 => ?_)
    · skip
      refine xw_new (ci := 9) (fs := [.int 0, .long 0]) tyX8 dX9_choose_45 rfl inX8 tyX8_ok (by decide) tw_73 tw_74 tw_40 (fun j hj => by rcases (show j = 0 ∨ j = 1 by omega) with rfl | rfl <;> rfl) ?_
      refine xw_dup dX9_choose_48 rfl ?_
      refine xw_iconst (v := 1) dX9_choose_49 (by decide) ?_
      refine xw_ldc2 (v := 4) tw_640 dX9_choose_50 ?_
      refine xw_callI (q2 := mX8_init) (n2 := 2) (Bs := [.int 1, .long 4]) (rest := [.ref (Sz M)]) (ct_Value (a := Sz M) nv_0) rfl dX9_choose_53 rfl rfl tw_75 tw_76 tw_40 tw_77 (by decide +kernel) rfl (Nat.le_of_ble_eq_true rfl) (Nat.le_of_ble_eq_true rfl) (Nat.le_of_ble_eq_true rfl) (fun rr M1 hr hle1 => ?_)
      obtain ⟨rfl, hM1⟩ := hr
      rw [oput_oput] at hM1
      obtain rfl : M1 = nv M (1, 4) := hM1
      rw [if_neg c2] at tail
      exact tail _ (Sz M) (h.nval hw) nv_at (Or.inr (Or.inl ⟨rfl, 4, by decide, by decide, rfl⟩)) (xe_nv hw)
    · skip
      refine xw_aload dX9_choose_40 rfl ?_
      refine xw_goto (tgt := 56) dX9_choose_42 (by decide) ?_
      rw [if_pos c2] at tail
      exact tail _ wy (h.mono (by omega)) hwy hy (XE.rf _ _)
  · have e0 : choose σ i c x y = giveS σ i (if y.2 = 0 then 0 else 1) c x := by unfold choose; rw [if_pos c1]
    rw [e0]
    refine xw_aload_n dX9_choose_8 rfl rfl ?_
    refine xw_aload_n dX9_choose_9 rfl rfl ?_
    refine xw_aload dX9_choose_10 rfl ?_
    refine xw_get (ci := 9) (k := 1) (v := .long y.2) dX9_choose_12 hwy rfl inX8 (by decide) tw_84 (Or.inl rfl) rfl ?_
    refine xw_lconst (v := 0) dX9_choose_15 (by decide) ?_
    refine xw_lcmp dX9_choose_16 ?_
    refine xw_pc (pc2 := 17) rfl ?_
    refine xw_if_ne (tgt := 24) dX9_choose_17 (by decide) (fun c2 => ?_) (fun c2 => ?_)
    · have h0 : ¬ y.2 = 0 := fun z => c2 ((lg_cmp_eq _ _).mpr z)
      rw [if_neg h0]
      refine xw_iconst (v := 1) dX9_choose_24 (by decide) ?_
      refine xw_aload_n dX9_choose_25 rfl rfl ?_
      refine xw_iload_n dX9_choose_26 rfl rfl ?_
      have q1 := ct_giveOnSide (G := G) (s := 1) h (by omega) hi (by decide) hc hwx hx
      refine xw_callV (q2 := mX9_giveOnSide) (n2 := 4) (ci := 10) (Bs := [.ref (nad Γ i), .int 1, .ref wx, .int (nI c)]) (rest := []) (q1) dX9_choose_27 rfl (o_at h.1) rfl rfl tw_636 tw_638 tw_10 tw_39 tw_639 (by decide +kernel) rfl (Nat.le_of_ble_eq_true rfl) (Nat.le_of_ble_eq_true rfl) (Nat.le_of_ble_eq_true rfl) (fun rr M1 hr hle1 => ?_)
      obtain ⟨rfl, γ1, hR1, hcd1, hX1⟩ := hr
      exact xw_vret rfl dX9_choose_30 ⟨rfl, γ1, hR1.mono (by have := hs1; omega), hcd1, hX1⟩
    · have h0 : y.2 = 0 := (lg_cmp_eq _ _).mp c2
      rw [if_pos h0]
      refine xw_iconst (v := 0) dX9_choose_20 (by decide) ?_
      refine xw_goto (tgt := 25) dX9_choose_21 (by decide) ?_
      refine xw_aload_n dX9_choose_25 rfl rfl ?_
      refine xw_iload_n dX9_choose_26 rfl rfl ?_
      have q1 := ct_giveOnSide (G := G) (s := 0) h (by omega) hi (by decide) hc hwx hx
      refine xw_callV (q2 := mX9_giveOnSide) (n2 := 4) (ci := 10) (Bs := [.ref (nad Γ i), .int 0, .ref wx, .int (nI c)]) (rest := []) (q1) dX9_choose_27 rfl (o_at h.1) rfl rfl tw_636 tw_638 tw_10 tw_39 tw_639 (by decide +kernel) rfl (Nat.le_of_ble_eq_true rfl) (Nat.le_of_ble_eq_true rfl) (Nat.le_of_ble_eq_true rfl) (fun rr M1 hr hle1 => ?_)
      obtain ⟨rfl, γ1, hR1, hcd1, hX1⟩ := hr
      exact xw_vret rfl dX9_choose_30 ⟨rfl, γ1, hR1.mono (by have := hs0; omega), hcd1, hX1⟩
theorem ct_move (h : Rep M A Γ σ γ b) (hb : b + 1600 ≤ 14400000) {i c wx : Nat} {x : V2} (hi : i < (sN σ).length) (ho : 8 ≤ (nd σ i).1 ∧ (nd σ i).1 ≤ 11) (hc : c < (sC σ).length) (hwx : So M 9 wx = some [.int x.1, .long x.2]) (hx : GV (sA σ) x) : CT G 10 230 mX9_move [.ref (aT A), .ref (nad Γ i), .int (nI c), .ref wx] M (RQ M A Γ (move σ i c x) γ (b + 1600)) := by
  refine ct_go (by decide +kernel) (Nat.le_of_ble_eq_true rfl) (L := [(0, .ref (aT A)), (1, .ref (nad Γ i)), (2, .int (nI c)), (3, .ref wx)]) rfl ?_
  refine xw_aload_n dX9_move_0 rfl rfl ?_
  refine xw_aload_n dX9_move_1 rfl rfl ?_
  refine xw_iload_n dX9_move_2 rfl rfl ?_
  refine xw_callV (q2 := mX9_contextBehind) (n2 := 2) (ci := 10) (Bs := [.ref (nad Γ i), .int (nI c)]) (rest := []) (ct_contextBehind h hi ho hc) dX9_move_3 rfl (o_at h.1) rfl rfl tw_645 tw_647 tw_12 tw_39 tw_648 (by decide +kernel) rfl (Nat.le_of_ble_eq_true rfl) (Nat.le_of_ble_eq_true rfl) (Nat.le_of_ble_eq_true rfl) (fun rr M1 hr hle1 => ?_)
  obtain ⟨rfl, hR, hX, hd, h151⟩ := hr
  have hsm : onI (tgt σ i c).1 = -1 ↔ (tgt σ i c).1 = none := onI_some (fun d hd' => by have := hd d hd'; omega)
  refine xw_istore (L2 := [(4, .int (onI (tgt σ i c).1)), (0, .ref (aT A)), (1, .ref (nad Γ i)), (2, .int (nI c)), (3, .ref wx)]) dX9_move_6 (by decide) rfl ?_
  refine xw_iload dX9_move_8 rfl ?_
  refine xw_iconst (v := (-1)) dX9_move_10 (by decide) ?_
  refine xw_pc (pc2 := 11) rfl ?_
  refine xw_icmp_ne (tgt := 22) dX9_move_11 (by decide) (fun c1 => ?_) (fun c1 => ?_)
  · cases ht : (tgt σ i c).1 with
    | none => exact absurd (hsm.mpr ht) c1
    | some d =>
      have em : move σ i c x = give (uC σ (tgt σ i c).2) i d x := by unfold move; rw [ht]; rfl
      rw [em]
      rw [ht] at hd
      refine xw_aload_n dX9_move_22 rfl rfl ?_
      refine xw_aload_n dX9_move_23 rfl rfl ?_
      refine xw_aload_n dX9_move_24 rfl rfl ?_
      refine xw_iload dX9_move_25 rfl ?_
      have q1 := ct_give (G := G) (c := d) hR (by omega) hi (hd d rfl) (hX.val hwx) hx
      rw [show onI (some d) = nI d from rfl]
      refine xw_callV (q2 := mX9_give) (n2 := 3) (ci := 10) (Bs := [.ref (nad Γ i), .ref wx, .int (nI d)]) (rest := []) (q1) dX9_move_27 rfl (o_at hR.1) rfl rfl tw_627 tw_629 tw_8 tw_39 tw_630 (by decide +kernel) rfl (Nat.le_of_ble_eq_true rfl) (Nat.le_of_ble_eq_true rfl) (Nat.le_of_ble_eq_true rfl) (fun rr M1 hr hle1 => ?_)
      obtain ⟨rfl, γ1, hR1, hcd1, hX1⟩ := hr
      exact xw_vret rfl dX9_move_30 ⟨rfl, γ1, hR1.mono (by omega), hcd1, hX.tr hX1⟩
  · have ht : (tgt σ i c).1 = none := hsm.mp c1
    have em : move σ i c x = uTr (uC σ (tgt σ i c).2) 2 := by unfold move; rw [ht]; rfl
    rw [em]
    refine xw_aload_n dX9_move_14 rfl rfl ?_
    refine xw_iconst (v := 2) dX9_move_15 (by decide) ?_
    refine xw_put (ci := 10) (k := 9) tyX9 dX9_move_16 hR.hdr rfl inX9 tyX9_ok nmX9 (by decide) tw_189 (Or.inl rfl) rfl rfl rfl rfl (Nat.le_of_ble_eq_true rfl) ?_
    dsimp only [List.set]
    refine xw_goto (tgt := 30) dX9_move_19 (by decide) ?_
    exact xw_vret rfl dX9_move_30 ⟨rfl, γ, (hR.tr (by decide)).mono (by omega), ⟨rfl, rfl⟩, hX.tr xe_hd⟩
theorem ndx_none {k : Int32} (h : ¬ (¬ k < 0 ∧ k < nI (sN σ).length)) : ndx σ k = none := by unfold ndx; rw [if_neg h]
theorem ndx_some {j : Nat} (h40 : (sN σ).length ≤ 40) (hj : j < (sN σ).length) : ndx σ (nI j) = some j := by unfold ndx; rw [if_pos ⟨nI_pos (by omega), nI_lt hj (by omega)⟩, nI_clamp (by omega)]
theorem ct_enterCall (h : Rep M A Γ σ γ b) (hb : b + 1600 ≤ 14400000) {i c wx : Nat} {x : V2} (hi : i < (sN σ).length) (hc : c < (sC σ).length) (hwx : So M 9 wx = some [.int x.1, .long x.2]) (hx : GV (sA σ) x) : CT G 9 205 mX9_enterCall [.ref (aT A), .ref (nad Γ i), .int (nI c), .ref wx] M (RQ M A Γ (enter σ i c x) γ (b + 1600)) := by
  refine ct_go (by decide +kernel) (Nat.le_of_ble_eq_true rfl) (L := [(0, .ref (aT A)), (1, .ref (nad Γ i)), (2, .int (nI c)), (3, .ref wx)]) rfl ?_
  have hnode := h.2.1.node hi
  have hH := h.hdr
  have hX := h.2.1.2.2.2.1
  have h151 := h.2.2.2.2.1.2.1
  refine xw_aload_n dX9_enterCall_0 rfl rfl ?_
  refine xw_aload_n dX9_enterCall_1 rfl rfl ?_
  refine xw_get (ci := 7) (k := 2) (v := .int (nd σ i).2.1) dX9_enterCall_2 hnode rfl inX6 (by decide) tw_578 (Or.inl rfl) rfl ?_
  refine xw_callV (q2 := mX9_nodeAt) (n2 := 1) (ci := 10) (Bs := [.int (nd σ i).2.1]) (rest := []) (ct_nodeAt h (by omega)) dX9_enterCall_5 rfl (o_at h.1) rfl rfl tw_224 tw_226 tw_0 tw_39 tw_227 (by decide +kernel) rfl (Nat.le_of_ble_eq_true rfl) (Nat.le_of_ble_eq_true rfl) (Nat.le_of_ble_eq_true rfl) (fun rr M1 hr hle1 => ?_)
  obtain ⟨hM1, hr⟩ := hr
  obtain rfl := hM1.symm
  rcases hr with ⟨rfl, hno⟩ | ⟨j, hj, hjk, rfl⟩
  · skip
    refine xw_astoreN (L2 := [(4, .null), (0, .ref (aT A)), (1, .ref (nad Γ i)), (2, .int (nI c)), (3, .ref wx)]) dX9_enterCall_8 (by decide) rfl ?_
    refine xw_aloadN dX9_enterCall_10 rfl ?_
    refine xw_ifnonnullN dX9_enterCall_12 ?_
    rw [show enter σ i c x = σ by unfold enter; rw [ndx_none hno]; rfl]
    exact xw_vret rfl dX9_enterCall_15 ⟨rfl, γ, h.mono (by omega), ⟨rfl, rfl⟩, XE.rf _ _⟩
  · skip
    refine xw_astore (L2 := [(4, .ref (nad Γ j)), (0, .ref (aT A)), (1, .ref (nad Γ i)), (2, .int (nI c)), (3, .ref wx)]) dX9_enterCall_8 (by decide) rfl ?_
    refine xw_aload dX9_enterCall_10 rfl ?_
    refine xw_pc (pc2 := 12) rfl ?_
    refine xw_ifnonnull (tgt := 16) dX9_enterCall_12 (by decide) ?_
    refine xw_aload_n dX9_enterCall_16 rfl rfl ?_
    refine xw_get (ci := 10) (k := 4) (v := .ref (aX A)) dX9_enterCall_17 hH rfl inX9 (by decide) tw_184 (Or.inl rfl) rfl ?_
    refine xw_iload_n dX9_enterCall_20 rfl rfl ?_
    refine xw_iconst (v := (-1)) dX9_enterCall_21 (by decide) ?_
    refine xw_aload_n dX9_enterCall_22 rfl rfl ?_
    refine xw_get (ci := 7) (k := 0) (v := .int (nI i)) dX9_enterCall_23 hnode rfl inX6 (by decide) tw_574 (Or.inl rfl) rfl ?_
    refine xw_isub dX9_enterCall_26 ?_
    refine xw_iconst (v := 0) dX9_enterCall_27 (by decide) ?_
    refine xw_callV (q2 := mX3_numberOf) (n2 := 3) (ci := 4) (Bs := [.int (nI c), .int ((-1) - (nI i)), .int 0]) (rest := []) (ct_numberOf hX) dX9_enterCall_28 rfl (o_at hX.1) rfl rfl tw_649 tw_650 tw_651 tw_45 tw_652 (by decide +kernel) rfl (Nat.le_of_ble_eq_true rfl) (Nat.le_of_ble_eq_true rfl) (Nat.le_of_ble_eq_true rfl) (fun rr M1 hr hle1 => ?_)
    obtain ⟨rfl, k2, k3⟩ := hr
    obtain ⟨hR, hXE⟩ := h.cx (t := (nI c, -1 - nI i, 0)) ⟨c, hc, rfl⟩ k2 k3
    have hd : ∀ d, (cnum (sC σ) (nI c, -1 - nI i, 0)).1 = some d → d < (cnum (sC σ) (nI c, -1 - nI i, 0)).2.length := fun d hd => (List.getElem?_eq_some_iff.mp (cnum_at hd)).1
    have hle := cnum_len (t := (nI c, -1 - nI i, 0)) h151
    have hsm : onI (cnum (sC σ) (nI c, -1 - nI i, 0)).1 = -1 ↔ (cnum (sC σ) (nI c, -1 - nI i, 0)).1 = none := onI_some (fun d hd' => by have := hd d hd'; omega)
    refine xw_istore (L2 := [(5, .int (onI (cnum (sC σ) (nI c, -1 - nI i, 0)).1)), (4, .ref (nad Γ j)), (0, .ref (aT A)), (1, .ref (nad Γ i)), (2, .int (nI c)), (3, .ref wx)]) dX9_enterCall_31 (by decide) rfl ?_
    refine xw_iload dX9_enterCall_33 rfl ?_
    refine xw_iconst (v := (-1)) dX9_enterCall_35 (by decide) ?_
    have en : ndx σ (nd σ i).2.1 = some j := by rw [hjk]; exact ndx_some h.2.2.1 hj
    refine xw_icmp_ne (tgt := 47) dX9_enterCall_36 (by decide) (fun c1 => ?_) (fun c1 => ?_)
    · cases ht : (cnum (sC σ) (nI c, -1 - nI i, 0)).1 with
      | none => exact absurd (hsm.mpr ht) c1
      | some d =>
        have em : enter σ i c x = come (uC σ (cnum (sC σ) (nI c, -1 - nI i, 0)).2) j 0 d x := by unfold enter; rw [en]; show callAt (cnum (sC σ) (nI c, -1 - nI i, 0)).1 _ _ _ _ = _; rw [ht]; rfl
        rw [em]
        rw [ht] at hd
        refine xw_aload_n dX9_enterCall_47 rfl rfl ?_
        refine xw_aload dX9_enterCall_48 rfl ?_
        refine xw_iconst (v := 0) dX9_enterCall_50 (by decide) ?_
        refine xw_aload_n dX9_enterCall_51 rfl rfl ?_
        refine xw_iload dX9_enterCall_52 rfl ?_
        refine xw_pc (pc2 := 54) rfl ?_
        have q1 := ct_come (G := G) (i := j) (p := 0) (c := d) hR (by omega) hj (pts_b _ j).1 (hd d rfl) (hXE.val hwx) hx
        rw [show onI (some d) = nI d from rfl]
        refine xw_callV (q2 := mX9_come) (n2 := 4) (ci := 10) (Bs := [.ref (nad Γ j), .int 0, .ref wx, .int (nI d)]) (rest := []) (q1) dX9_enterCall_54 rfl (o_at hR.1) rfl rfl tw_345 tw_347 tw_4 tw_39 tw_348 (by decide +kernel) rfl (Nat.le_of_ble_eq_true rfl) (Nat.le_of_ble_eq_true rfl) (Nat.le_of_ble_eq_true rfl) (fun rr M1 hr hle1 => ?_)
        obtain ⟨rfl, γ1, hR1, hcd1, hX1⟩ := hr
        exact xw_vret rfl dX9_enterCall_57 ⟨rfl, γ1, hR1.mono (by omega), hcd1, hXE.tr hX1⟩
    · have ht : (cnum (sC σ) (nI c, -1 - nI i, 0)).1 = none := hsm.mp c1
      have em : enter σ i c x = uTr (uC σ (cnum (sC σ) (nI c, -1 - nI i, 0)).2) 2 := by unfold enter; rw [en]; show callAt (cnum (sC σ) (nI c, -1 - nI i, 0)).1 _ _ _ _ = _; rw [ht]; rfl
      rw [em]
      refine xw_aload_n dX9_enterCall_39 rfl rfl ?_
      refine xw_iconst (v := 2) dX9_enterCall_40 (by decide) ?_
      refine xw_put (ci := 10) (k := 9) tyX9 dX9_enterCall_41 hR.hdr rfl inX9 tyX9_ok nmX9 (by decide) tw_189 (Or.inl rfl) rfl rfl rfl rfl (Nat.le_of_ble_eq_true rfl) ?_
      dsimp only [List.set]
      refine xw_goto (tgt := 57) dX9_enterCall_44 (by decide) ?_
      exact xw_vret rfl dX9_enterCall_57 ⟨rfl, γ, (hR.tr (by decide)).mono (by omega), ⟨rfl, rfl⟩, hXE.tr xe_hd⟩
theorem ct_leaveCall (h : Rep M A Γ σ γ b) (hb : b + 1600 ≤ 14400000) {c wx : Nat} {x : V2} (hc : c < (sC σ).length) (hwx : So M 9 wx = some [.int x.1, .long x.2]) (hx : GV (sA σ) x) : CT G 10 230 mX9_leaveCall [.ref (aT A), .int (nI c), .ref wx] M (RQ M A Γ (leave σ c x) γ (b + 1600)) := by
  refine ct_go (by decide +kernel) (Nat.le_of_ble_eq_true rfl) (L := [(0, .ref (aT A)), (1, .int (nI c)), (2, .ref wx)]) rfl ?_
  have hH := h.hdr
  have hX := h.2.1.2.2.2.1
  have h151 := h.2.2.2.2.1.2.1
  have hcx := ct3_at hc
  refine xw_aload_n dX9_leaveCall_0 rfl rfl ?_
  refine xw_iconst (v := (-1)) dX9_leaveCall_1 (by decide) ?_
  refine xw_aload_n dX9_leaveCall_2 rfl rfl ?_
  refine xw_get (ci := 10) (k := 4) (v := .ref (aX A)) dX9_leaveCall_3 hH rfl inX9 (by decide) tw_184 (Or.inl rfl) rfl ?_
  refine xw_iload_n dX9_leaveCall_6 rfl rfl ?_
  refine xw_callV (q2 := mX3_siteOf) (n2 := 1) (ci := 4) (Bs := [.int (nI c)]) (rest := [.int (-1), .ref (aT A)]) (ct_siteOf hX hcx) dX9_leaveCall_7 rfl (o_at hX.1) rfl rfl tw_675 tw_676 tw_677 tw_45 tw_678 (by decide +kernel) rfl (Nat.le_of_ble_eq_true rfl) (Nat.le_of_ble_eq_true rfl) (Nat.le_of_ble_eq_true rfl) (fun rr M1 hr hle1 => ?_)
  obtain ⟨rfl, hM1⟩ := hr
  obtain rfl := hM1.symm
  refine xw_isub dX9_leaveCall_10 ?_
  refine xw_callV (q2 := mX9_nodeAt) (n2 := 1) (ci := 10) (Bs := [.int ((-1) - ((ct3 σ c).2.1))]) (rest := []) (ct_nodeAt h (by omega)) dX9_leaveCall_11 rfl (o_at h.1) rfl rfl tw_224 tw_226 tw_0 tw_39 tw_227 (by decide +kernel) rfl (Nat.le_of_ble_eq_true rfl) (Nat.le_of_ble_eq_true rfl) (Nat.le_of_ble_eq_true rfl) (fun rr M1 hr hle1 => ?_)
  obtain ⟨hM1, hr⟩ := hr
  obtain rfl := hM1.symm
  rcases hr with ⟨rfl, hno⟩ | ⟨j, hj, hjk, rfl⟩
  · skip
    refine xw_astore_nN (L2 := [(3, .null), (0, .ref (aT A)), (1, .int (nI c)), (2, .ref wx)]) dX9_leaveCall_14 rfl (by decide) rfl ?_
    refine xw_aload_nN dX9_leaveCall_15 rfl rfl ?_
    refine xw_ifnullN (tgt := 33) dX9_leaveCall_16 (by decide) ?_
    rw [show leave σ c x = σ by unfold leave; rw [ndx_none hno]; rfl]
    exact xw_vret rfl dX9_leaveCall_33 ⟨rfl, γ, h.mono (by omega), ⟨rfl, rfl⟩, XE.rf _ _⟩
  · have en : ndx σ (-1 - (ct3 σ c).2.1) = some j := by rw [hjk]; exact ndx_some h.2.2.1 hj
    have eo : (if c = 0 then 0 else (ct3 σ c).1) = nI (outc σ c) ∧ outc σ c < (sC σ).length := by
      unfold outc
      by_cases h0 : c = 0
      · rw [if_pos h0, if_pos h0]; exact ⟨rfl, by omega⟩
      · rw [if_neg h0, if_neg h0]
        obtain ⟨k, hk1, hk2⟩ := h.2.2.out hc h0
        rw [hk2, nI_clamp (by omega)]
        exact ⟨rfl, hk1⟩
    have q0 := ct_outsideOf (G := G) hX hcx
    rw [eo.1] at q0
    rw [show leave σ c x = give σ j (outc σ c) x by unfold leave; rw [en]; rfl]
    refine xw_astore_n (L2 := [(3, .ref (nad Γ j)), (0, .ref (aT A)), (1, .int (nI c)), (2, .ref wx)]) dX9_leaveCall_14 rfl (by decide) rfl ?_
    refine xw_aload_n dX9_leaveCall_15 rfl rfl ?_
    refine xw_pc (pc2 := 16) rfl ?_
    refine xw_ifnull dX9_leaveCall_16 ?_
    refine xw_aload_n dX9_leaveCall_19 rfl rfl ?_
    refine xw_aload_n dX9_leaveCall_20 rfl rfl ?_
    refine xw_aload_n dX9_leaveCall_21 rfl rfl ?_
    refine xw_aload_n dX9_leaveCall_22 rfl rfl ?_
    refine xw_get (ci := 10) (k := 4) (v := .ref (aX A)) dX9_leaveCall_23 hH rfl inX9 (by decide) tw_184 (Or.inl rfl) rfl ?_
    refine xw_iload_n dX9_leaveCall_26 rfl rfl ?_
    refine xw_callV (q2 := mX3_outsideOf) (n2 := 1) (ci := 4) (Bs := [.int (nI c)]) (rest := [.ref wx, .ref (nad Γ j), .ref (aT A)]) (q0) dX9_leaveCall_27 rfl (o_at hX.1) rfl rfl tw_663 tw_664 tw_665 tw_45 tw_666 (by decide +kernel) rfl (Nat.le_of_ble_eq_true rfl) (Nat.le_of_ble_eq_true rfl) (Nat.le_of_ble_eq_true rfl) (fun rr M1 hr hle1 => ?_)
    obtain ⟨rfl, hM1⟩ := hr
    obtain rfl := hM1.symm
    have q1 := ct_give (G := G) h (by omega) hj eo.2 hwx hx
    refine xw_callV (q2 := mX9_give) (n2 := 3) (ci := 10) (Bs := [.ref (nad Γ j), .ref wx, .int (nI (outc σ c))]) (rest := []) (q1) dX9_leaveCall_30 rfl (o_at h.1) rfl rfl tw_627 tw_629 tw_8 tw_39 tw_630 (by decide +kernel) rfl (Nat.le_of_ble_eq_true rfl) (Nat.le_of_ble_eq_true rfl) (Nat.le_of_ble_eq_true rfl) (fun rr M1 hr hle1 => ?_)
    obtain ⟨rfl, γ1, hR1, hcd1, hX1⟩ := hr
    exact xw_vret rfl dX9_leaveCall_33 ⟨rfl, γ1, hR1.mono (by omega), hcd1, hX1⟩
end WAYS2
