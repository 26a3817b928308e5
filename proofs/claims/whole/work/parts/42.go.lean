/-! THE CLASS: go -/
def wX (o : Nat) : Nat := ([0, 2, 2, 2, 2, 2, 1, 0, 0, 0, 0, 0, 0, 0, 2, 3, 3, 0] : List Nat).getD o 0
def wY (o : Nat) : Nat := ([0, 2, 2, 2, 2, 2, 0, 0, 0, 0, 0, 0, 0, 0, 0, 2, 2, 0] : List Nat).getD o 0
theorem tabs : ∀ o, o < 18 → tabX.getD o 0 = nI (wX o) ∧ tabY.getD o 0 = nI (wY o) ∧ wX o < 4 ∧ wY o < 4 ∧ (wY o ≠ 0 → 2 ≤ prt o) := by decide +kernel
def vl (t : Nat → Option V2) (p : Nat) : V2 := (t p).getD (3, 0)
def errs (o : Nat) (x y : V2) : Nat := min (errOf x (wX o)) (errOf y (wY o))
def actBy (o : Nat) (σ : hs_S) (i c : Nat) (x y z : V2) : hs_S :=
  if o ≤ 6 then give σ i c (reck (nd σ i).1 (nd σ i).2.1 x y)
  else if o = 7 then choose σ i c x y
  else if o ≤ 11 then move σ i c x
  else if o = 12 then enter σ i c x
  else if o = 13 then leave σ c x
  else if o = 14 then made σ i c x
  else if o = 15 then fetched (cix σ x.2 y.2) σ i c
  else if o = 16 then stored (cix σ x.2 y.2) σ i c z
  else uRs σ (sRs σ ++ [(x, c)])
def acts (σ : hs_S) (i c : Nat) (t : Nat → Option V2) : hs_S :=
  if errs (nd σ i).1 (vl t 0) (vl t 1) ≠ 5 then give σ i c (1, lN (errs (nd σ i).1 (vl t 0) (vl t 1)))
  else actBy (nd σ i).1 σ i c (vl t 0) (vl t 1) (vl t 2)
section GOING
variable {G : hx_G} {M M1 : hx_S} {A : hA} {Γ : hG} {σ : hs_S} {γ : hf_S} {b i c d : Nat} {z : V2} {t : Nat → Option V2}
theorem OV.so {nv w p : Nat} (h : OV M nv w (t p)) (hnv : So M 9 nv = some [.int 3, .long 0]) : So M 9 w = some [.int (vl t p).1, .long (vl t p).2] := by
  rcases h with ⟨h1, rfl⟩ | ⟨v, h1, h2, h3⟩
  · unfold vl; rw [h1]; exact hnv
  · unfold vl; rw [h1]; exact h2
theorem vl_gv {na n p : Nat} (h : GT na n t) (hp : t p ≠ none) : GV na (vl t p) := by
  unfold vl
  cases e : t p with
  | none => exact absurd e hp
  | some v => exact (h p v e).2
theorem errOf_b {na wt : Nat} {v : V2} (hv : wt = 0 ∨ GV na v) : 1 ≤ errOf v wt ∧ errOf v wt ≤ 5 := by
  unfold errOf
  split
  · exact ⟨by decide, by decide⟩
  · next h0 =>
    split
    · next h1 =>
      rcases hv.resolve_left h0 with z | ⟨-, e, he1, he2, he3⟩ | z
      · rw [h1] at z; exact absurd z (by decide)
      · rw [he3, lN_clamp (by omega)]; omega
      · rw [h1] at z; exact absurd z.1 (by decide)
    · split
      · exact ⟨by decide, by decide⟩
      · split <;> exact ⟨by decide, by decide⟩
theorem nI_min {a b : Nat} (ha : a < 2 ^ 31) (hb : b < 2 ^ 31) : (if nI b < nI a then nI b else nI a) = nI (min a b) := by
  by_cases h : b < a
  · rw [if_pos (nI_lt h ha), Nat.min_eq_right (by omega)]
  · rw [if_neg (nI_nlt (a := b) (b := a) (by omega) hb), Nat.min_eq_left (by omega)]
theorem ks_R : ∀ s : State, KS G s → va_Nw (.castable RX7 "java/lang/Object") s := fun s h => h.2.2.2.1.2.2.2
theorem GS.res {x : V2} (h : GS σ) (hx : GV (sA σ) x) (hc : c < (sC σ).length) (hr : (sRs σ).length < sW σ) : GS (uRs σ (sRs σ ++ [(x, c)])) := by
  obtain ⟨k1, k2, k3, k4, k5, k6, k7, k8, ⟨q1, q2, q3, q4, q5, q6⟩, k10⟩ := h
  refine ⟨k1, k2, k3, k4, k5, k6, k7, fun y hy => ?_, ⟨q1, q2, q3, q4, ?_, q6⟩, k10⟩
  · rcases List.mem_append.mp hy with hy | hy
    · exact k8 y hy
    · rw [List.mem_singleton.mp hy]; exact ⟨hx, hc⟩
  · show (sRs σ ++ [(x, c)]).length ≤ sW σ
    rw [List.length_append, List.length_singleton]; omega
theorem RepB.res {w a : Nat} {x : V2} {q : List Nat × Nat × Nat × Int32} (h : RepB M A Γ σ γ b) (hw : Wf M) (hq : Sq M (aQ A) = some q) (ha : So M 8 a = some [.ref w, .int (nI c)]) (hwv : So M 9 w = some [.int x.1, .long x.2]) : RepB (addq M (aQ A) q a) A Γ (uRs σ (sRs σ ++ [(x, c)])) γ (b + 48) := by
  have e : Ext M (addq M (aQ A) q a) no2 (fun x => x = aQ A) no1 no1 := ext_addq
  obtain ⟨k1, k2, k3, k4, k5, ⟨c0, xs, ⟨y, c1⟩, c2, c3⟩, k7⟩ := h
  rw [hq] at c1
  cases c1
  have hE := (k2.2.1 (2, 0) act_2).2
  refine ⟨(k1.ext e (fun _ => id) (fun _ => id) (fun x hx => ?_)).cg rfl rfl, k2.ext e (fun _ => id) (fun _ => id) (fun _ => id) (fun _ => False.elim) (fun x hx => ?_), k3, k4.ext e (fun _ => id) ⟨id, id, id⟩, (k5.ext e (fun _ => id) (fun _ => id) (fun _ => id) (fun _ => False.elim) (fun _ => False.elim)).cg rfl rfl rfl rfl rfl rfl, ⟨c0, xs ++ [a], lq_addq, ?_, fun k a' x' hk hx' => ?_⟩, k7.add hw hq (fun z => ?_)⟩
  · rw [hx, c0]; exact ⟨by decide, by decide⟩
  · rw [hx, c0]; exact Or.inr (Or.inl rfl)
  · show (xs ++ [a]).length = (sRs σ ++ [(x, c)]).length
    rw [List.length_append, List.length_append, c2]; rfl
  · have hx2 : (sRs σ ++ [(x, c)])[k]? = some x' := hx'
    by_cases hkl : k < xs.length
    · rw [List.getElem?_append_left hkl] at hk
      rw [List.getElem?_append_left (by omega)] at hx2
      obtain ⟨w', m1, m2⟩ := c3 k a' x' hk hx2
      exact ⟨w', e.so m1 id, e.so m2 id⟩
    · rw [List.getElem?_append_right (by omega)] at hk
      rw [List.getElem?_append_right (by omega)] at hx2
      have hk0 : k - xs.length = 0 := by
        have q1 := (List.getElem?_eq_some_iff.mp hk).1
        rw [List.length_singleton] at q1; omega
      rw [hk0] at hk
      rw [show k - (sRs σ).length = 0 by omega] at hx2
      cases hk
      cases hx2
      exact ⟨w, e.so ha id, e.so hwv id⟩
  · rw [z] at c0; rw [ad_2, c0] at hE; exact absurd (show (4 : Nat) = 2 from congrArg Prod.fst hE) (by decide)
theorem ct_going {f : Nat} (h : Rep M A Γ σ γ b) (hb : b + 3100 ≤ 14400000) (hfl : fly γ f) (hf3 : gna γ f = nad Γ i ∧ gfc γ f = nI c ∧ gft γ f = t) (hi : i < (sN σ).length) (hc : c < (sC σ).length) (ht : GT (sA σ) (pts σ i) t) (hfull : ∀ p, p < pts σ i → t p ≠ none) (hrm : sNt σ + (sR σ).length + (sK σ).length < 300) (hrs : (sRs σ).length < sW σ) : CT G 11 258 mX9_go [.ref (aT A), .ref f] M (RZ M A Γ (acts σ i c t) (b + 2400)) := by
  refine ct_go (by decide +kernel) (Nat.le_of_ble_eq_true rfl) (L := [(0, .ref (aT A)), (1, .ref f)]) rfl ?_
  have hH := h.hdr
  obtain ⟨va, w0, w1, w2, p1, p2, p3, p4, p5, p6⟩ := h.2.1.2.1.2.2.1 f hfl.1
  rw [hf3.1, hf3.2.1, hf3.2.2] at p2
  rw [hf3.2.2] at p4 p5 p6
  have hnv := h.2.1.2.1.2.2.2.2
  have x0 := p4.so hnv
  have x1 := p5.so hnv
  have x2 := p6.so hnv
  have ho18 := (h.2.2.2.1 i _ (nd_at hi)).1
  obtain ⟨tx, ty, tx4, ty4, ty2⟩ := tabs _ ho18
  have hv0 : GV (sA σ) (vl t 0) := vl_gv ht (hfull 0 (pts_b σ i).1)
  have hv1 : wY (nd σ i).1 = 0 ∨ GV (sA σ) (vl t 1) := by
    by_cases hq : wY (nd σ i).1 = 0
    · exact Or.inl hq
    · exact Or.inr (vl_gv ht (hfull 1 (ty2 hq)))
  refine xw_aload_n dX9_go_0 rfl rfl ?_
  refine xw_get (ci := 5) (k := 2) (v := .ref (nad Γ i)) dX9_go_1 p2 rfl inX4 (by decide) tw_380 (Or.inl rfl) rfl ?_
  refine xw_astore_n (L2 := [(2, .ref (nad Γ i)), (0, .ref (aT A)), (1, .ref f)]) dX9_go_4 rfl (by decide) rfl ?_
  refine xw_aload_n dX9_go_5 rfl rfl ?_
  refine xw_get (ci := 5) (k := 3) (v := .int (nI c)) dX9_go_6 p2 rfl inX4 (by decide) tw_384 (Or.inl rfl) rfl ?_
  refine xw_istore_n (L2 := [(3, .int (nI c)), (2, .ref (nad Γ i)), (0, .ref (aT A)), (1, .ref f)]) dX9_go_9 rfl (by decide) rfl ?_
  refine xw_aload_n dX9_go_10 rfl rfl ?_
  refine xw_get (ci := 5) (k := 1) (v := .ref va) dX9_go_11 p2 rfl inX4 (by decide) tw_377 (Or.inl rfl) rfl ?_
  refine xw_iconst (v := 0) dX9_go_14 (by decide) ?_
  refine xw_aald (v := .ref w0) dX9_go_15 p3 (vp_in_nI (show 0 < 3 by decide) (by decide)) rfl ?_
  refine xw_astore (L2 := [(4, .ref w0), (3, .int (nI c)), (2, .ref (nad Γ i)), (0, .ref (aT A)), (1, .ref f)]) dX9_go_16 (by decide) rfl ?_
  refine xw_aload_n dX9_go_18 rfl rfl ?_
  refine xw_get (ci := 5) (k := 1) (v := .ref va) dX9_go_19 p2 rfl inX4 (by decide) tw_377 (Or.inl rfl) rfl ?_
  refine xw_iconst (v := 1) dX9_go_22 (by decide) ?_
  refine xw_pc (pc2 := 23) rfl ?_
  refine xw_aald (v := .ref w1) dX9_go_23 p3 (vp_in_nI (show 1 < 3 by decide) (by decide)) rfl ?_
  refine xw_astore (L2 := [(5, .ref w1), (4, .ref w0), (3, .int (nI c)), (2, .ref (nad Γ i)), (0, .ref (aT A)), (1, .ref f)]) dX9_go_24 (by decide) rfl ?_
  refine xw_aload_n dX9_go_26 rfl rfl ?_
  refine xw_get (ci := 5) (k := 1) (v := .ref va) dX9_go_27 p2 rfl inX4 (by decide) tw_377 (Or.inl rfl) rfl ?_
  refine xw_iconst (v := 2) dX9_go_30 (by decide) ?_
  refine xw_aald (v := .ref w2) dX9_go_31 p3 (vp_in_nI (show 2 < 3 by decide) (by decide)) rfl ?_
  refine xw_astore (L2 := [(6, .ref w2), (5, .ref w1), (4, .ref w0), (3, .int (nI c)), (2, .ref (nad Γ i)), (0, .ref (aT A)), (1, .ref f)]) dX9_go_32 (by decide) rfl ?_
  refine xw_aload_n dX9_go_34 rfl rfl ?_
  refine xw_get (ci := 10) (k := 2) (v := .ref (aF A)) dX9_go_35 hH rfl inX9 (by decide) tw_182 (Or.inl rfl) rfl ?_
  refine xw_aload_n dX9_go_38 rfl rfl ?_
  refine xw_callV (q2 := mX5_takeBack) (n2 := 1) (ci := 6) (Bs := [.ref f]) (rest := []) (ct_takeBack h.2.1 hfl (by omega)) dX9_go_39 rfl (o_at h.2.1.2.1.2.2.2.1) rfl rfl tw_622 tw_439 tw_440 tw_44 tw_441 (by decide +kernel) rfl (Nat.le_of_ble_eq_true rfl) (Nat.le_of_ble_eq_true rfl) (Nat.le_of_ble_eq_true rfl) (fun rr M1 hr hle1 => ?_)
  obtain ⟨rfl, γ1, hB1, hk2, hXF⟩ := hr
  have hR1 : Rep M1 A Γ σ γ1 b := ⟨hXF.so h.1 (by decide), hB1, h.2.2⟩
  have hX1 : XE A M M1 := hXF.xe
  have y0 := hX1.val x0
  have y1 := hX1.val x1
  have y2 := hX1.val x2
  have hnode : So M1 7 (nad Γ i) = some [.int (nI i), .int (nI (nd σ i).1), .int (nd σ i).2.1, .int (nI (pts σ i)), .int (nI (wX (nd σ i).1)), .int (nI (wY (nd σ i).1)), .ref (nar Γ i), .ref (nfr Γ i)] := by rw [← tx, ← ty]; exact hB1.node hi
  clear hXF hB1
  generalize M1 = M2 at hR1 hX1 y0 y1 y2 hnode ⊢
  have hH1 := hR1.hdr
  have e1 := errOf_b (Or.inr hv0 : wX (nd σ i).1 = 0 ∨ _)
  have e2 := errOf_b hv1
  refine xw_aload dX9_go_42 rfl ?_
  refine xw_aload_n dX9_go_44 rfl rfl ?_
  refine xw_get (ci := 7) (k := 4) (v := .int (nI (wX (nd σ i).1))) dX9_go_45 hnode rfl inX6 (by decide) tw_582 (Or.inl rfl) rfl ?_
  refine xw_callS (q2 := mX9_errorOf) (n2 := 2) (Bs := [.ref w0, .int (nI (wX (nd σ i).1))]) (rest := []) (ct_errorOf y0 (Or.inr hv0) tx4) dX9_go_48 rfl tw_623 tw_624 tw_39 tw_625 (by decide +kernel) rfl (Nat.le_of_ble_eq_true rfl) (Nat.le_of_ble_eq_true rfl) (Nat.le_of_ble_eq_true rfl) (fun rr M1 hr hle1 => ?_)
  obtain ⟨rfl, hM1⟩ := hr
  obtain rfl := hM1.symm
  refine xw_aload dX9_go_51 rfl ?_
  refine xw_aload_n dX9_go_53 rfl rfl ?_
  refine xw_get (ci := 7) (k := 5) (v := .int (nI (wY (nd σ i).1))) dX9_go_54 hnode rfl inX6 (by decide) tw_584 (Or.inl rfl) rfl ?_
  refine xw_pc (pc2 := 57) rfl ?_
  refine xw_callS (q2 := mX9_errorOf) (n2 := 2) (Bs := [.ref w1, .int (nI (wY (nd σ i).1))]) (rest := [.int (nI (errOf (vl t 0) (wX (nd σ i).1)))]) (ct_errorOf y1 hv1 ty4) dX9_go_57 rfl tw_623 tw_624 tw_39 tw_625 (by decide +kernel) rfl (Nat.le_of_ble_eq_true rfl) (Nat.le_of_ble_eq_true rfl) (Nat.le_of_ble_eq_true rfl) (fun rr M1 hr hle1 => ?_)
  obtain ⟨rfl, hM1⟩ := hr
  obtain rfl := hM1.symm
  refine xw_min dX9_go_60 tw_626 tw_334 tw_55 tw_335 (Nat.le_of_ble_eq_true rfl) (Nat.le_of_ble_eq_true rfl) ?_
  rw [nI_min (by omega) (by omega)]
  have e5 : errs (nd σ i).1 (vl t 0) (vl t 1) ≤ 5 := Nat.le_trans (Nat.min_le_left _ _) e1.2
  have e0 : 1 ≤ errs (nd σ i).1 (vl t 0) (vl t 1) := Nat.le_min.mpr ⟨e1.1, e2.1⟩
  refine xw_istore (L2 := [(7, .int (nI (errs (nd σ i).1 (vl t 0) (vl t 1)))), (6, .ref w2), (5, .ref w1), (4, .ref w0), (3, .int (nI c)), (2, .ref (nad Γ i)), (0, .ref (aT A)), (1, .ref f)]) dX9_go_63 (by decide) rfl ?_
  refine xw_iload dX9_go_65 rfl ?_
  refine xw_iconst (v := 5) dX9_go_67 (by decide) ?_
  refine xw_wf fun hw => ?_
  refine xw_icmp_eq (tgt := 89) dX9_go_68 (by decide) (fun d1 => ?_) (fun d1 => ?_)
  · have he : errs (nd σ i).1 (vl t 0) (vl t 1) = 5 := (nI_eq (by omega) (by decide)).mp (show nI _ = nI 5 from d1)
    have hac : acts σ i c t = actBy (nd σ i).1 σ i c (vl t 0) (vl t 1) (vl t 2) := by unfold acts; rw [if_neg (fun zz => zz he)]
    rw [hac]
    refine xw_aload_n dX9_go_89 rfl rfl ?_
    refine xw_get (ci := 7) (k := 1) (v := .int (nI (nd σ i).1)) dX9_go_90 hnode rfl inX6 (by decide) tw_576 (Or.inl rfl) rfl ?_
    rcases (show (nd σ i).1 < 7 ∨ (nd σ i).1 = 7 ∨ (8 ≤ (nd σ i).1 ∧ (nd σ i).1 ≤ 11) ∨ (nd σ i).1 = 12 ∨ (nd σ i).1 = 13 ∨ (nd σ i).1 = 14 ∨ (nd σ i).1 = 15 ∨ (nd σ i).1 = 16 ∨ (nd σ i).1 = 17 by omega) with e | e | e | e | e | e | e | e | e
    · skip
      refine xw_tableOut (tgt := 286) dX9_go_93 (Or.inl (by rw [nI_toInt (by omega)]; omega)) rfl ?_
      refine xw_aload_n dX9_go_286 rfl rfl ?_
      refine xw_aload_n dX9_go_287 rfl rfl ?_
      refine xw_aload_n dX9_go_288 rfl rfl ?_
      refine xw_aload dX9_go_289 rfl ?_
      refine xw_aload dX9_go_291 rfl ?_
      refine xw_callS (q2 := mX9_reckoned) (n2 := 3) (Bs := [.ref (nad Γ i), .ref w0, .ref w1]) (rest := [.ref (nad Γ i), .ref (aT A)]) (ct_reckoned hR1 hi (by omega) y0 y1) dX9_go_293 rfl tw_739 tw_740 tw_39 tw_741 (by decide +kernel) rfl (Nat.le_of_ble_eq_true rfl) (Nat.le_of_ble_eq_true rfl) (Nat.le_of_ble_eq_true rfl) (fun rr M1 hr hle1 => ?_)
      obtain ⟨w, rfl, hv, hR2, hX2⟩ := hr
      refine xw_iload_n dX9_go_296 rfl rfl ?_
      have hgv : GV (sA σ) (reck (nd σ i).1 (nd σ i).2.1 (vl t 0) (vl t 1)) := by
        unfold reck
        split
        · exact Or.inl rfl
        · split
          · exact Or.inl rfl
          · split
            · exact Or.inl rfl
            · split
              · split
                · exact Or.inr (Or.inl ⟨rfl, 1, by decide, by decide, rfl⟩)
                · exact Or.inl rfl
              · split
                · exact Or.inl rfl
                · split
                  · exact Or.inl rfl
                  · exact hv0
      have q1 := ct_give (G := G) hR2 (by omega) hi hc hv hgv
      refine xw_callV (q2 := mX9_give) (n2 := 3) (ci := 10) (Bs := [.ref (nad Γ i), .ref w, .int (nI c)]) (rest := []) (q1) dX9_go_297 rfl (o_at hR2.1) rfl rfl tw_627 tw_629 tw_8 tw_39 tw_630 (by decide +kernel) rfl (Nat.le_of_ble_eq_true rfl) (Nat.le_of_ble_eq_true rfl) (Nat.le_of_ble_eq_true rfl) (fun rr M1 hr hle1 => ?_)
      obtain ⟨rfl, γ2, hR3, -, hX3⟩ := hr
      rw [show actBy (nd σ i).1 σ i c (vl t 0) (vl t 1) (vl t 2) = give σ i c (reck (nd σ i).1 (nd σ i).2.1 (vl t 0) (vl t 1)) by unfold actBy; rw [if_pos (by omega)]]
      exact xw_vret rfl dX9_go_300 ⟨rfl, γ2, hR3.mono (by omega), hX1.tr (hX2.tr hX3)⟩
    · rw [show nI (nd σ i).1 = nI 7 from congrArg nI e]
      refine xw_tableIn (off := 59) (tgt := 152) dX9_go_93 (by decide +kernel) (by decide +kernel) (by decide +kernel) rfl ?_
      refine xw_aload_n dX9_go_152 rfl rfl ?_
      refine xw_aload_n dX9_go_153 rfl rfl ?_
      refine xw_iload_n dX9_go_154 rfl rfl ?_
      refine xw_aload dX9_go_155 rfl ?_
      refine xw_aload dX9_go_157 rfl ?_
      refine xw_pc (pc2 := 159) rfl ?_
      have hv1' : GV (sA σ) (vl t 1) := vl_gv ht (hfull 1 (by unfold pts; rw [e]; decide))
      have q1 := ct_choose (G := G) hR1 hb hi hc y0 y1 hv0 hv1'
      refine xw_callV (q2 := mX9_choose) (n2 := 4) (ci := 10) (Bs := [.ref (nad Γ i), .int (nI c), .ref w0, .ref w1]) (rest := []) (q1) dX9_go_159 rfl (o_at hR1.1) rfl rfl tw_632 tw_634 tw_9 tw_39 tw_635 (by decide +kernel) rfl (Nat.le_of_ble_eq_true rfl) (Nat.le_of_ble_eq_true rfl) (Nat.le_of_ble_eq_true rfl) (fun rr M1 hr hle1 => ?_)
      obtain ⟨rfl, γ2, hR3, -, hX3⟩ := hr
      refine xw_goto (tgt := 300) dX9_go_162 (by decide) ?_
      rw [show actBy (nd σ i).1 σ i c (vl t 0) (vl t 1) (vl t 2) = choose σ i c (vl t 0) (vl t 1) by rw [e]; rfl]
      exact xw_vret rfl dX9_go_300 ⟨rfl, γ2, hR3.mono (by omega), hX1.tr hX3⟩
    · have mvs : XW G 11 258 mX9_go [.ref (aT A), .ref f] M (RZ M A Γ (actBy (nd σ i).1 σ i c (vl t 0) (vl t 1) (vl t 2)) (b + 2400)) M2 165 [(7, .int (nI (errs (nd σ i).1 (vl t 0) (vl t 1)))), (6, .ref w2), (5, .ref w1), (4, .ref w0), (3, .int (nI c)), (2, .ref (nad Γ i)), (0, .ref (aT A)), (1, .ref f)] [] := by
        refine xw_aload_n dX9_go_165 rfl rfl ?_
        refine xw_aload_n dX9_go_166 rfl rfl ?_
        refine xw_iload_n dX9_go_167 rfl rfl ?_
        refine xw_aload dX9_go_168 rfl ?_
        have q1 := ct_move (G := G) hR1 (by omega) hi e hc y0 hv0
        refine xw_callV (q2 := mX9_move) (n2 := 3) (ci := 10) (Bs := [.ref (nad Γ i), .int (nI c), .ref w0]) (rest := []) (q1) dX9_go_170 rfl (o_at hR1.1) rfl rfl tw_641 tw_643 tw_11 tw_39 tw_644 (by decide +kernel) rfl (Nat.le_of_ble_eq_true rfl) (Nat.le_of_ble_eq_true rfl) (Nat.le_of_ble_eq_true rfl) (fun rr M1 hr hle1 => ?_)
        obtain ⟨rfl, γ2, hR3, -, hX3⟩ := hr
        refine xw_goto (tgt := 300) dX9_go_173 (by decide) ?_
        rw [show actBy (nd σ i).1 σ i c (vl t 0) (vl t 1) (vl t 2) = move σ i c (vl t 0) by unfold actBy; rw [if_neg (by omega), if_neg (by omega), if_pos (by omega)]]
        exact xw_vret rfl dX9_go_300 ⟨rfl, γ2, hR3.mono (by omega), hX1.tr hX3⟩
      rcases (show (nd σ i).1 = 8 ∨ (nd σ i).1 = 9 ∨ (nd σ i).1 = 10 ∨ (nd σ i).1 = 11 by omega) with e' | e' | e' | e'
      · rw [show nI (nd σ i).1 = nI 8 from congrArg nI e']
        refine xw_tableIn (off := 72) (tgt := 165) dX9_go_93 (by decide +kernel) (by decide +kernel) (by decide +kernel) rfl ?_
        exact xw_pc rfl mvs
      · rw [show nI (nd σ i).1 = nI 9 from congrArg nI e']
        refine xw_tableIn (off := 72) (tgt := 165) dX9_go_93 (by decide +kernel) (by decide +kernel) (by decide +kernel) rfl ?_
        exact xw_pc rfl mvs
      · rw [show nI (nd σ i).1 = nI 10 from congrArg nI e']
        refine xw_tableIn (off := 72) (tgt := 165) dX9_go_93 (by decide +kernel) (by decide +kernel) (by decide +kernel) rfl ?_
        exact xw_pc rfl mvs
      · rw [show nI (nd σ i).1 = nI 11 from congrArg nI e']
        refine xw_tableIn (off := 72) (tgt := 165) dX9_go_93 (by decide +kernel) (by decide +kernel) (by decide +kernel) rfl ?_
        exact xw_pc rfl mvs
    · rw [show nI (nd σ i).1 = nI 12 from congrArg nI e]
      refine xw_tableIn (off := 83) (tgt := 176) dX9_go_93 (by decide +kernel) (by decide +kernel) (by decide +kernel) rfl ?_
      refine xw_aload_n dX9_go_176 rfl rfl ?_
      refine xw_aload_n dX9_go_177 rfl rfl ?_
      refine xw_iload_n dX9_go_178 rfl rfl ?_
      refine xw_aload dX9_go_179 rfl ?_
      have q1 := ct_enterCall (G := G) hR1 (by omega) hi hc y0 hv0
      refine xw_callV (q2 := mX9_enterCall) (n2 := 3) (ci := 10) (Bs := [.ref (nad Γ i), .int (nI c), .ref w0]) (rest := []) (q1) dX9_go_181 rfl (o_at hR1.1) rfl rfl tw_667 tw_669 tw_13 tw_39 tw_670 (by decide +kernel) rfl (Nat.le_of_ble_eq_true rfl) (Nat.le_of_ble_eq_true rfl) (Nat.le_of_ble_eq_true rfl) (fun rr M1 hr hle1 => ?_)
      obtain ⟨rfl, γ2, hR3, -, hX3⟩ := hr
      refine xw_goto (tgt := 300) dX9_go_184 (by decide) ?_
      rw [show actBy (nd σ i).1 σ i c (vl t 0) (vl t 1) (vl t 2) = enter σ i c (vl t 0) by rw [e]; rfl]
      exact xw_vret rfl dX9_go_300 ⟨rfl, γ2, hR3.mono (by omega), hX1.tr hX3⟩
    · rw [show nI (nd σ i).1 = nI 13 from congrArg nI e]
      refine xw_tableIn (off := 94) (tgt := 187) dX9_go_93 (by decide +kernel) (by decide +kernel) (by decide +kernel) rfl ?_
      refine xw_aload_n dX9_go_187 rfl rfl ?_
      refine xw_iload_n dX9_go_188 rfl rfl ?_
      refine xw_aload dX9_go_189 rfl ?_
      refine xw_pc (pc2 := 191) rfl ?_
      have q1 := ct_leaveCall (G := G) hR1 (by omega) hc y0 hv0
      refine xw_callV (q2 := mX9_leaveCall) (n2 := 2) (ci := 10) (Bs := [.int (nI c), .ref w0]) (rest := []) (q1) dX9_go_191 rfl (o_at hR1.1) rfl rfl tw_671 tw_673 tw_14 tw_39 tw_674 (by decide +kernel) rfl (Nat.le_of_ble_eq_true rfl) (Nat.le_of_ble_eq_true rfl) (Nat.le_of_ble_eq_true rfl) (fun rr M1 hr hle1 => ?_)
      obtain ⟨rfl, γ2, hR3, -, hX3⟩ := hr
      refine xw_goto (tgt := 300) dX9_go_194 (by decide) ?_
      rw [show actBy (nd σ i).1 σ i c (vl t 0) (vl t 1) (vl t 2) = leave σ c (vl t 0) by unfold actBy; rw [e, if_neg (by decide), if_neg (by decide), if_neg (by decide), if_neg (by decide), if_pos rfl]]
      exact xw_vret rfl dX9_go_300 ⟨rfl, γ2, hR3.mono (by omega), hX1.tr hX3⟩
    · rw [show nI (nd σ i).1 = nI 14 from congrArg nI e]
      refine xw_tableIn (off := 104) (tgt := 197) dX9_go_93 (by decide +kernel) (by decide +kernel) (by decide +kernel) rfl ?_
      refine xw_aload_n dX9_go_197 rfl rfl ?_
      refine xw_aload_n dX9_go_198 rfl rfl ?_
      refine xw_iload_n dX9_go_199 rfl rfl ?_
      refine xw_aload dX9_go_200 rfl ?_
      refine xw_get (ci := 9) (k := 1) (v := .long (vl t 0).2) dX9_go_202 y0 rfl inX8 (by decide) tw_84 (Or.inl rfl) rfl ?_
      have q1 := ct_makeArray (G := G) (x := vl t 0) hR1 (by omega) hi hc
      refine xw_callV (q2 := mX9_makeArray) (n2 := 3) (ci := 10) (Bs := [.ref (nad Γ i), .int (nI c), .long (vl t 0).2]) (rest := []) (q1) dX9_go_205 rfl (o_at hR1.1) rfl rfl tw_679 tw_681 tw_15 tw_39 tw_682 (by decide +kernel) rfl (Nat.le_of_ble_eq_true rfl) (Nat.le_of_ble_eq_true rfl) (Nat.le_of_ble_eq_true rfl) (fun rr M1 hr hle1 => ?_)
      obtain ⟨rfl, γ2, hR3, hX3⟩ := hr
      refine xw_goto (tgt := 300) dX9_go_208 (by decide) ?_
      rw [show actBy (nd σ i).1 σ i c (vl t 0) (vl t 1) (vl t 2) = made σ i c (vl t 0) by rw [e]; rfl]
      exact xw_vret rfl dX9_go_300 ⟨rfl, γ2, hR3.mono (by omega), hX1.tr hX3⟩
    · rw [show nI (nd σ i).1 = nI 15 from congrArg nI e]
      refine xw_tableIn (off := 118) (tgt := 211) dX9_go_93 (by decide +kernel) (by decide +kernel) (by decide +kernel) rfl ?_
      refine xw_aload_n dX9_go_211 rfl rfl ?_
      refine xw_aload_n dX9_go_212 rfl rfl ?_
      refine xw_iload_n dX9_go_213 rfl rfl ?_
      refine xw_aload_n dX9_go_214 rfl rfl ?_
      refine xw_get (ci := 10) (k := 5) (v := .ref (aC A)) dX9_go_215 hH1 rfl inX9 (by decide) tw_185 (Or.inl rfl) rfl ?_
      refine xw_aload dX9_go_218 rfl ?_
      refine xw_get (ci := 9) (k := 1) (v := .long (vl t 0).2) dX9_go_220 y0 rfl inX8 (by decide) tw_84 (Or.inl rfl) rfl ?_
      refine xw_aload dX9_go_223 rfl ?_
      refine xw_get (ci := 9) (k := 1) (v := .long (vl t 1).2) dX9_go_225 y1 rfl inX8 (by decide) tw_84 (Or.inl rfl) rfl ?_
      refine xw_pc (pc2 := 228) rfl ?_
      refine xw_callV (q2 := mX2_at) (n2 := 2) (ci := 3) (Bs := [.long (vl t 0).2, .long (vl t 1).2]) (rest := [.int (nI c), .ref (nad Γ i), .ref (aT A)]) (ct_at hR1) dX9_go_228 rfl (o_at hR1.2.1.2.2.2.2.1.1) rfl rfl tw_707 tw_708 tw_709 tw_46 tw_710 (by decide +kernel) rfl (Nat.le_of_ble_eq_true rfl) (Nat.le_of_ble_eq_true rfl) (Nat.le_of_ble_eq_true rfl) (fun rr M1 hr hle1 => ?_)
      obtain ⟨hM1, hq⟩ := hr
      obtain rfl := hM1.symm
      rw [show actBy (nd σ i).1 σ i c (vl t 0) (vl t 1) (vl t 2) = fetched (cix σ (vl t 0).2 (vl t 1).2) σ i c by rw [e]; rfl]
      rcases hq with ⟨rfl, hn⟩ | ⟨d, a, rfl, hn, hcd⟩
      · rw [hn]
        refine xw_callV (q2 := mX9_fetch) (n2 := 3) (ci := 10) (Bs := [.ref (nad Γ i), .int (nI c), .null]) (rest := []) (ct_fetchN hR1 (by omega) hi hc) dX9_go_231 rfl (o_at hR1.1) rfl rfl tw_711 tw_713 tw_16 tw_39 tw_714 (by decide +kernel) rfl (Nat.le_of_ble_eq_true rfl) (Nat.le_of_ble_eq_true rfl) (Nat.le_of_ble_eq_true rfl) (fun rr M1 hr hle1 => ?_)
        obtain ⟨rfl, γ2, hR3, -, hX3⟩ := hr
        refine xw_goto (tgt := 300) dX9_go_234 (by decide) ?_
        exact xw_vret rfl dX9_go_300 ⟨rfl, γ2, hR3.mono (by omega), hX1.tr hX3⟩
      · have hdd := cix_in h.2.2 hn
        rw [hn]
        refine xw_callV (q2 := mX9_fetch) (n2 := 3) (ci := 10) (Bs := [.ref (nad Γ i), .int (nI c), .ref a]) (rest := []) (ct_fetch hR1 (by omega) hrm hi hc hcd hdd) dX9_go_231 rfl (o_at hR1.1) rfl rfl tw_711 tw_713 tw_16 tw_39 tw_714 (by decide +kernel) rfl (Nat.le_of_ble_eq_true rfl) (Nat.le_of_ble_eq_true rfl) (Nat.le_of_ble_eq_true rfl) (fun rr M1 hr hle1 => ?_)
        obtain ⟨rfl, γ2, hR3, -, hX3⟩ := hr
        refine xw_goto (tgt := 300) dX9_go_234 (by decide) ?_
        exact xw_vret rfl dX9_go_300 ⟨rfl, γ2, hR3.mono (by omega), hX1.tr hX3⟩
    · rw [show nI (nd σ i).1 = nI 16 from congrArg nI e]
      refine xw_tableIn (off := 144) (tgt := 237) dX9_go_93 (by decide +kernel) (by decide +kernel) (by decide +kernel) rfl ?_
      refine xw_aload_n dX9_go_237 rfl rfl ?_
      refine xw_aload_n dX9_go_238 rfl rfl ?_
      refine xw_iload_n dX9_go_239 rfl rfl ?_
      refine xw_aload_n dX9_go_240 rfl rfl ?_
      refine xw_get (ci := 10) (k := 5) (v := .ref (aC A)) dX9_go_241 hH1 rfl inX9 (by decide) tw_185 (Or.inl rfl) rfl ?_
      refine xw_aload dX9_go_244 rfl ?_
      refine xw_get (ci := 9) (k := 1) (v := .long (vl t 0).2) dX9_go_246 y0 rfl inX8 (by decide) tw_84 (Or.inl rfl) rfl ?_
      refine xw_aload dX9_go_249 rfl ?_
      refine xw_get (ci := 9) (k := 1) (v := .long (vl t 1).2) dX9_go_251 y1 rfl inX8 (by decide) tw_84 (Or.inl rfl) rfl ?_
      refine xw_callV (q2 := mX2_at) (n2 := 2) (ci := 3) (Bs := [.long (vl t 0).2, .long (vl t 1).2]) (rest := [.int (nI c), .ref (nad Γ i), .ref (aT A)]) (ct_at hR1) dX9_go_254 rfl (o_at hR1.2.1.2.2.2.2.1.1) rfl rfl tw_707 tw_708 tw_709 tw_46 tw_710 (by decide +kernel) rfl (Nat.le_of_ble_eq_true rfl) (Nat.le_of_ble_eq_true rfl) (Nat.le_of_ble_eq_true rfl) (fun rr M1 hr hle1 => ?_)
      obtain ⟨hM1, hq⟩ := hr
      obtain rfl := hM1.symm
      rw [show actBy (nd σ i).1 σ i c (vl t 0) (vl t 1) (vl t 2) = stored (cix σ (vl t 0).2 (vl t 1).2) σ i c (vl t 2) by rw [e]; rfl]
      have hv2 : GV (sA σ) (vl t 2) := vl_gv ht (hfull 2 (by unfold pts; rw [e]; decide))
      rcases hq with ⟨rfl, hn⟩ | ⟨d, a, rfl, hn, hcd⟩
      · rw [hn]
        refine xw_aload dX9_go_257 rfl ?_
        refine xw_callV (q2 := mX9_store) (n2 := 4) (ci := 10) (Bs := [.ref (nad Γ i), .int (nI c), .null, .ref w2]) (rest := []) (ct_storeN (z := vl t 2) hR1 (by omega) hi hc) dX9_go_259 rfl (o_at hR1.1) rfl rfl tw_720 tw_722 tw_17 tw_39 tw_723 (by decide +kernel) rfl (Nat.le_of_ble_eq_true rfl) (Nat.le_of_ble_eq_true rfl) (Nat.le_of_ble_eq_true rfl) (fun rr M1 hr hle1 => ?_)
        obtain ⟨rfl, γ2, hR3, -, hX3⟩ := hr
        refine xw_goto (tgt := 300) dX9_go_262 (by decide) ?_
        refine xw_pc (pc2 := 300) rfl ?_
        exact xw_vret rfl dX9_go_300 ⟨rfl, γ2, hR3.mono (by omega), hX1.tr hX3⟩
      · have hdd := cix_in h.2.2 hn
        rw [hn]
        refine xw_aload dX9_go_257 rfl ?_
        refine xw_callV (q2 := mX9_store) (n2 := 4) (ci := 10) (Bs := [.ref (nad Γ i), .int (nI c), .ref a, .ref w2]) (rest := []) (ct_store hR1 (by omega) hi hc hcd hdd y2 hv2) dX9_go_259 rfl (o_at hR1.1) rfl rfl tw_720 tw_722 tw_17 tw_39 tw_723 (by decide +kernel) rfl (Nat.le_of_ble_eq_true rfl) (Nat.le_of_ble_eq_true rfl) (Nat.le_of_ble_eq_true rfl) (fun rr M1 hr hle1 => ?_)
        obtain ⟨rfl, γ2, hR3, -, hX3⟩ := hr
        refine xw_goto (tgt := 300) dX9_go_262 (by decide) ?_
        exact xw_vret rfl dX9_go_300 ⟨rfl, γ2, hR3.mono (by omega), hX1.tr hX3⟩
    · rw [show nI (nd σ i).1 = nI 17 from congrArg nI e]
      refine xw_tableIn (off := 172) (tgt := 265) dX9_go_93 (by decide +kernel) (by decide +kernel) (by decide +kernel) rfl ?_
      refine xw_aload_n dX9_go_265 rfl rfl ?_
      refine xw_get (ci := 10) (k := 6) (v := .ref (aQ A)) dX9_go_266 hH1 rfl inX9 (by decide) tw_186 (Or.inl rfl) rfl ?_
      refine xw_new (ci := 8) (fs := [.null, .int 0]) tyX7 dX9_go_269 rfl inX7 tyX7_ok (by decide) tw_724 tw_725 tw_63 (fun j hj => by rcases (show j = 0 ∨ j = 1 by omega) with rfl | rfl <;> rfl) ?_
      refine xw_dup dX9_go_272 rfl ?_
      refine xw_aload dX9_go_273 rfl ?_
      refine xw_iload_n dX9_go_275 rfl rfl ?_
      refine xw_callI (q2 := mX7_init) (n2 := 2) (Bs := [.ref w0, .int (nI c)]) (rest := [.ref (Sz M2), .ref (aQ A)]) (ct_Result (a := Sz M2) (show So (oput (grow M2 2 8) 8 (Sz M2) _) 8 (Sz M2) = some [.null, .int 0] by rw [So_oput, if_pos ⟨rfl, rfl⟩])) rfl dX9_go_276 rfl rfl tw_726 tw_727 tw_63 tw_728 (by decide +kernel) rfl (Nat.le_of_ble_eq_true rfl) (Nat.le_of_ble_eq_true rfl) (Nat.le_of_ble_eq_true rfl) (fun rr M1 hr hle1 => ?_)
      obtain ⟨rfl, hM1⟩ := hr
      rw [oput_oput] at hM1
      have eX : Ext M2 M1 no2 no1 no1 no1 := by rw [hM1]; exact ext_new hw
      have hB2 : RepB M1 A Γ σ γ1 (b + 28) := hR1.2.1.ext0 eX (fun _ _ => False.elim) ((hR1.2.1.2.2.2.2.2.2.one (M1 := M1) (s := 2) hw (by rw [hM1]; rfl) (by rw [hM1]; rfl) (fun q => by rw [hM1]; rfl)).mono (by omega))
      have ha2 : So M1 8 (Sz M2) = some [.ref w0, .int (nI c)] := by rw [hM1, So_oput, if_pos ⟨rfl, rfl⟩]
      have hH2 := eX.so hR1.1 id
      have z0 := eX.so y0 id
      clear hM1
      generalize M1 = M3 at eX hB2 ha2 hH2 z0 ⊢
      obtain ⟨c0, xs, ⟨y, hq⟩, c2, c3⟩ := hB2.2.2.2.2.2.1
      have hels : ∀ g, g ∈ xs → ∃ vs, So M3 8 g = some vs := by
        intro g hg
        obtain ⟨k, hk⟩ := List.getElem?_of_mem hg
        have hkl : k < (sRs σ).length := by
          have := (List.getElem?_eq_some_iff.mp hk).1
          omega
        obtain ⟨w', m1, -⟩ := c3 k g _ hk (List.getElem?_eq_getElem hkl)
        exact ⟨_, m1⟩
      refine xw_wf fun hw3 => ?_
      refine xw_callV (q2 := mJx4a65c_add_9ea2d) (n2 := 1) (ci := 0) (Bs := [.ref (Sz M2)]) (rest := []) (ct_add (ci := 8) hq (hB2.2.2.2.2.2.2.cap (by omega) hq) (by decide) ha2 rfl ks_R hels) dX9_go_279 rfl (q_at hq) rfl rfl tw_409 tw_280 tw_281 tw_43 tw_282 (by decide +kernel) rfl (Nat.le_of_ble_eq_true rfl) (Nat.le_of_ble_eq_true rfl) (Nat.le_of_ble_eq_true rfl) (fun rr M1 hr hle1 => ?_)
      obtain ⟨rfl, rfl⟩ := hr
      refine xw_pop dX9_go_282 rfl ?_
      refine xw_goto (tgt := 300) dX9_go_283 (by decide) ?_
      rw [show actBy (nd σ i).1 σ i c (vl t 0) (vl t 1) (vl t 2) = uRs σ (sRs σ ++ [(vl t 0, c)]) by rw [e]; rfl]
      exact xw_vret rfl dX9_go_300 ⟨rfl, γ1, ⟨by rw [So_addq]; exact hH2, (hB2.res hw3 hq ha2 z0).mono (by omega), h.2.2.res hv0 hc hrs⟩, hX1.tr ((eX.mono (fun _ _ => False.elim) (fun _ => False.elim) (fun _ => False.elim) (fun _ => False.elim)).tr (ext_addq.mono (fun _ _ => False.elim) (fun _ _ => trivial) (fun _ => False.elim) (fun _ => False.elim)))⟩
  · have he : errs (nd σ i).1 (vl t 0) (vl t 1) ≠ 5 := fun zz => d1 (by rw [zz]; rfl)
    refine xw_aload_n dX9_go_71 rfl rfl ?_
    refine xw_aload_n dX9_go_72 rfl rfl ?_
    refine xw_new (ci := 9) (fs := [.int 0, .long 0]) tyX8 dX9_go_73 rfl inX8 tyX8_ok (by decide) tw_73 tw_74 tw_40 (fun j hj => by rcases (show j = 0 ∨ j = 1 by omega) with rfl | rfl <;> rfl) ?_
    refine xw_dup dX9_go_76 rfl ?_
    refine xw_iconst (v := 1) dX9_go_77 (by decide) ?_
    refine xw_iload dX9_go_78 rfl ?_
    refine xw_i2l dX9_go_80 ?_
    refine xw_pc (pc2 := 81) rfl ?_
    rw [nI_l (show errs (nd σ i).1 (vl t 0) (vl t 1) < 2 ^ 31 by omega)]
    refine xw_callI (q2 := mX8_init) (n2 := 2) (Bs := [.int 1, .long (lN (errs (nd σ i).1 (vl t 0) (vl t 1)))]) (rest := [.ref (Sz M2), .ref (nad Γ i), .ref (aT A)]) (ct_Value (a := Sz M2) nv_0) rfl dX9_go_81 rfl rfl tw_75 tw_76 tw_40 tw_77 (by decide +kernel) rfl (Nat.le_of_ble_eq_true rfl) (Nat.le_of_ble_eq_true rfl) (Nat.le_of_ble_eq_true rfl) (fun rr M1 hr hle1 => ?_)
    obtain ⟨rfl, hM1⟩ := hr
    rw [oput_oput] at hM1
    obtain rfl : M1 = nv M2 (1, lN (errs (nd σ i).1 (vl t 0) (vl t 1))) := hM1
    refine xw_iload_n dX9_go_84 rfl rfl ?_
    have hR2 := hR1.nval hw (v := (1, lN (errs (nd σ i).1 (vl t 0) (vl t 1))))
    have q1 := ct_give (G := G) hR2 (by omega) hi hc nv_at (Or.inr (Or.inl ⟨rfl, _, e0, by omega, rfl⟩))
    refine xw_callV (q2 := mX9_give) (n2 := 3) (ci := 10) (Bs := [.ref (nad Γ i), .ref (Sz M2), .int (nI c)]) (rest := []) (q1) dX9_go_85 rfl (o_at hR2.1) rfl rfl tw_627 tw_629 tw_8 tw_39 tw_630 (by decide +kernel) rfl (Nat.le_of_ble_eq_true rfl) (Nat.le_of_ble_eq_true rfl) (Nat.le_of_ble_eq_true rfl) (fun rr M1 hr hle1 => ?_)
    obtain ⟨rfl, γ2, hR3, -, hX3⟩ := hr
    have hac : acts σ i c t = give σ i c (1, lN (errs (nd σ i).1 (vl t 0) (vl t 1))) := by unfold acts; rw [if_pos he]
    rw [hac]
    exact xw_vret rfl dX9_go_88 ⟨rfl, γ2, hR3.mono (by omega), hX1.tr ((xe_nv hw).tr hX3)⟩
end GOING
