/-! THE CLASS: store -/
section STORE
variable {G : hx_G} {M M1 : hx_S} {A : hA} {Γ : hG} {σ : hs_S} {γ : hf_S} {b i c d : Nat} {z : V2}
theorem ar5 (b k : Nat) : b + 1500 + 1500 * k ≤ b + 1500 * (k + 1) := by rw [Nat.mul_succ]; omega
theorem give_same (σ : hs_S) (i c : Nat) (v : V2) : same9 σ (give σ i c v) := gives_same _ _ _ _ σ
theorem RepB.wr {a w : Nat} (h : RepB M A Γ σ γ b) (hd : gcd γ d = some a) (hwv : So M 9 w = some [.int z.1, .long z.2]) (hz : z.1 ≠ 3) : RepB (oput M 2 a (some [.ref (gkl γ d), .ref w])) A Γ (cset σ d z) γ b := by
  have e : Ext M (oput M 2 a (some [.ref (gkl γ d), .ref w])) (fun c x => c = 2 ∧ x = a) no1 no1 no1 := ext_oput
  obtain ⟨k1, k2, k3, k4, ⟨c1, ⟨c2, c3⟩, ⟨fl, c4, c5⟩, c6, c10, c11⟩, k6, k7⟩ := h
  have n2 : ∀ c, c ≠ 2 → ∀ x, ¬ (c = 2 ∧ x = a) := fun c hc x z => hc z.1
  refine ⟨(k1.ext e (n2 7 (by decide)) (n2 1 (by decide)) (fun _ => False.elim)).cg rfl rfl, k2.ext e (n2 9 (by decide)) (n2 5 (by decide)) (n2 6 (by decide)) (fun _ => False.elim) (fun _ => False.elim), k3, k4.ext e (n2 4 (by decide)) ⟨id, id, id⟩, ⟨e.so c1 (n2 3 (by decide) _), ⟨c2, c3⟩, ⟨fl, c4, c5⟩, c6, fun d' a' hd' => ?_, c11⟩, (k6.ext e (n2 9 (by decide)) (n2 8 (by decide)) (fun _ => False.elim)).cg rfl rfl, k7.same rfl rfl (fun _ => rfl)⟩
  obtain ⟨m1, m2, u, m3, m4⟩ := c10 d' a' hd'
  by_cases hdd : d' = d
  · rw [hdd, hd] at hd'
    cases hd'
    refine ⟨m1, m2, w, by rw [So_oput, if_pos ⟨rfl, rfl⟩, hdd], ?_⟩
    show OV _ _ _ (if d' = d then some z else sCe σ d')
    rw [if_pos hdd]
    exact Or.inr ⟨z, rfl, e.so hwv (n2 9 (by decide) _), hz⟩
  · have hne : a' ≠ a := fun zz => by
      have q := (c10 d a hd).2.1
      rw [← zz, m2] at q
      exact hdd (Prod.mk.inj q).2
    refine ⟨m1, m2, u, by rw [So_oput, if_neg (fun zz => hne zz.2)]; exact m3, ?_⟩
    show OV _ _ _ (if d' = d then some z else sCe σ d')
    rw [if_neg hdd]
    exact m4.ext e (n2 9 (by decide))
theorem ct_storeN {w : Nat} (h : Rep M A Γ σ γ b) (hb : b + 1700 ≤ 14400000) (hi : i < (sN σ).length) (hc : c < (sC σ).length) : CT G 10 230 mX9_store [.ref (aT A), .ref (nad Γ i), .int (nI c), .null, .ref w] M (RQ M A Γ (stored none σ i c z) γ (b + 1700)) := by
  refine ct_wf fun hw => ?_
  refine ct_go (by decide +kernel) (Nat.le_of_ble_eq_true rfl) (L := [(0, .ref (aT A)), (1, .ref (nad Γ i)), (2, .int (nI c)), (3, .null), (4, .ref w)]) rfl ?_
  refine xw_aload_nN dX9_store_0 rfl rfl ?_
  refine xw_ifnonnullN dX9_store_1 ?_
  refine xw_aload_n dX9_store_4 rfl rfl ?_
  refine xw_aload_n dX9_store_5 rfl rfl ?_
  refine xw_new (ci := 9) (fs := [.int 0, .long 0]) tyX8 dX9_store_6 rfl inX8 tyX8_ok (by decide) tw_73 tw_74 tw_40 (fun j hj => by rcases (show j = 0 ∨ j = 1 by omega) with rfl | rfl <;> rfl) ?_
  refine xw_dup dX9_store_9 rfl ?_
  refine xw_iconst (v := 1) dX9_store_10 (by decide) ?_
  refine xw_ldc2 (v := 3) tw_715 dX9_store_11 ?_
  refine xw_callI (q2 := mX8_init) (n2 := 2) (Bs := [.int 1, .long 3]) (rest := [.ref (Sz M), .ref (nad Γ i), .ref (aT A)]) (ct_Value (a := Sz M) nv_0) rfl dX9_store_14 rfl rfl tw_75 tw_76 tw_40 tw_77 (by decide +kernel) rfl (Nat.le_of_ble_eq_true rfl) (Nat.le_of_ble_eq_true rfl) (Nat.le_of_ble_eq_true rfl) (fun rr M1 hr hle1 => ?_)
  obtain ⟨rfl, hM1⟩ := hr
  rw [oput_oput] at hM1
  obtain rfl : M1 = nv M (1, 3) := hM1
  refine xw_iload_n dX9_store_17 rfl rfl ?_
  have hR := h.nval hw (v := (1, 3))
  have q1 := ct_give (G := G) hR (by omega) hi hc nv_at (Or.inr (Or.inl ⟨rfl, 3, by decide, by decide, rfl⟩))
  refine xw_callV (q2 := mX9_give) (n2 := 3) (ci := 10) (Bs := [.ref (nad Γ i), .ref (Sz M), .int (nI c)]) (rest := []) (q1) dX9_store_18 rfl (o_at hR.1) rfl rfl tw_627 tw_629 tw_8 tw_39 tw_630 (by decide +kernel) rfl (Nat.le_of_ble_eq_true rfl) (Nat.le_of_ble_eq_true rfl) (Nat.le_of_ble_eq_true rfl) (fun rr M1 hr hle1 => ?_)
  obtain ⟨rfl, γ1, hR1, hcd1, hX1⟩ := hr
  exact xw_vret rfl dX9_store_21 ⟨rfl, γ1, hR1.mono (by omega), hcd1, (xe_nv hw).tr hX1⟩
theorem ct_store {a w : Nat} (h : Rep M A Γ σ γ b) (hb : b + 1700 ≤ 14400000) (hi : i < (sN σ).length) (hc : c < (sC σ).length) (hd : gcd γ d = some a) (hdd : ∃ k j, k < sA σ ∧ j < sLe σ k ∧ d = 8 * k + j) (hwv : So M 9 w = some [.int z.1, .long z.2]) (hz : GV (sA σ) z) : CT G 10 230 mX9_store [.ref (aT A), .ref (nad Γ i), .int (nI c), .ref a, .ref w] M (RQ M A Γ (stored (some d) σ i c z) γ (b + 1700)) := by
  have loop : ∀ (S : hs_S) (k : Nat) (M' : hx_S) (σ' : hs_S) (γ' : hf_S), (kf σ' d).length = k → Rep M' A Γ σ' γ' (b + 1500) → (gcd γ' = gcd γ ∧ gkl γ' = gkl γ) → So M' 9 w = some [.int z.1, .long z.2] → GV (sA σ') z → serves d z k σ' = S → XE A M M' → XW G 10 230 mX9_store [.ref (aT A), .ref (nad Γ i), .int (nI c), .ref a, .ref w] M (RQ M A Γ S γ (b + 1700)) M' 58 [(5, .int (nI k)), (0, .ref (aT A)), (1, .ref (nad Γ i)), (2, .int (nI c)), (3, .ref a), (4, .ref w)] [] := by
    intro S k
    induction k with
    | zero =>
      intro M' σ' γ' hk hR hcd hwv' hz' hS hX
      refine xw_iload dX9_store_58 rfl ?_
      refine xw_if_le (tgt := 132) dX9_store_60 (by decide) (fun _ => ?_) (fun zz => absurd (show nI 0 ≤ nI 0 from nI_le (Nat.le_refl _) (by decide)) zz)
      rw [← hS]
      exact xw_vret rfl dX9_store_132 ⟨rfl, γ', hR.mono (by omega), hcd, hX⟩
    | succ k ih =>
      intro M' σ' γ' hk hR hcd hwv' hz' hS hX
      have hcd' : gcd γ' d = some a := by rw [hcd.1]; exact hd
      obtain ⟨-, -, u, c3, -⟩ := hR.2.1.2.2.2.2.1.2.2.2.2.1 d a hcd'
      have hmap := hR.2.1.2.2.1.2.2.2.2.2.1 d ⟨a, hcd'⟩
      have hlen : (gG γ' (7, d)).length = k + 1 := by
        have q := congrArg List.length hmap
        rw [List.length_map, List.length_map] at q
        omega
      have h300 := hR.2.2.2.2.2.2.2.2.2.2.1.1
      have htr := hR.2.2.2.2.2.2.2.2.2.2.1.2.1
      have hfle : (kf σ' d).length ≤ (sK σ').length := List.length_filter_le (fun x : N3 => x.2.2 == d) (sK σ')
      have hH := hR.hdr
      refine xw_iload dX9_store_58 rfl ?_
      refine xw_if_le (tgt := 132) dX9_store_60 (by decide) (fun zz => absurd zz (show ¬ nI (k + 1) ≤ nI 0 from nI_ge (by omega) (by omega))) (fun _ => ?_)
      refine xw_aload_n dX9_store_63 rfl rfl ?_
      refine xw_get (ci := 10) (k := 9) (v := .int (nI (sTr σ'))) dX9_store_64 hH rfl inX9 (by decide) tw_189 (Or.inl rfl) rfl ?_
      refine xw_if_ne (tgt := 132) dX9_store_67 (by decide) (fun d1 => ?_) (fun d1 => ?_)
      · have t0 : sTr σ' ≠ 0 := fun zz => d1 (by rw [zz]; rfl)
        have hSe : serves d z (k + 1) σ' = σ' := by unfold serves; rw [if_pos t0]
        rw [hSe] at hS
        rw [← hS]
        exact xw_vret rfl dX9_store_132 ⟨rfl, γ', hR.mono (by omega), hcd, hX⟩
      · have t0 : sTr σ' = 0 := (nI_eq (by omega) (by decide)).mp (show nI (sTr σ') = nI 0 from d1)
        refine xw_aload_n dX9_store_70 rfl rfl ?_
        refine xw_get (ci := 2) (k := 0) (v := .ref (gkl γ' d)) dX9_store_71 c3 rfl inX1 (by decide) tw_698 (Or.inl rfl) rfl ?_
        refine xw_iconst (v := 0) dX9_store_74 (by decide) ?_
        refine xw_pc (pc2 := 75) rfl ?_
        obtain ⟨⟨y, hy⟩, hro⟩ := hR.2.1.2.1.2.1 (7, d) (act_7 hcd')
        rw [ad_7] at hy hro
        have hro2 := (hR.2.1.2.1.2.1 (2, 0) act_2).2
        have hcap := hR.2.1.2.2.2.2.2.2.cap (by omega) hy
        simp only at hcap
        have hl0 : 0 < (gG γ' (7, d)).length := by omega
        refine xw_wf fun hw' => ?_
        refine xw_callV (q2 := mJx4a65c_remove_915e3) (n2 := 1) (ci := 0) (Bs := [.int (nI 0)]) (rest := []) (ct_remove (ci := 5) hy (i := 0) hl0 (by show y.1 ≤ 20000001; omega) (by decide) rfl ks_F (fun g hg => hR.2.1.isF (hR.2.1.inMD (act_7 hcd') hg))) dX9_store_75 rfl (q_at hy) rfl rfl tw_617 tw_401 tw_402 tw_43 tw_403 (by decide +kernel) rfl (Nat.le_of_ble_eq_true rfl) (Nat.le_of_ble_eq_true rfl) (Nat.le_of_ble_eq_true rfl) (fun rr M1 hr hle1 => ?_)
        obtain ⟨rfl, hM1⟩ := hr
        obtain ⟨f, hf0⟩ : ∃ f, f = (gG γ' (7, d))[0] := ⟨_, rfl⟩
        refine Eq.mp (congrArg (fun zz => XW G 10 230 mX9_store [.ref (aT A), .ref (nad Γ i), .int (nI c), .ref a, .ref w] M _ _ _ _ [.ref zz]) hf0) ?_
        have hel : (gG γ' (7, d))[0]? = some f := by rw [List.getElem?_eq_getElem hl0, hf0]
        have hmem : f ∈ gG γ' (7, d) := List.mem_of_getElem? hel
        have hmd := hR.2.1.inMD (act_7 hcd') hmem
        obtain ⟨x, hx⟩ : ∃ x, (kf σ' d).head? = some x := by
          cases hq : kf σ' d with
          | nil => rw [hq] at hk; cases hk
          | cons x xs => exact ⟨x, rfl⟩
        have hx0 : (kf σ' d)[0]? = some x := by rw [← List.head?_eq_getElem?]; exact hx
        have hxk : x ∈ sK σ' := (List.mem_filter.mp (List.mem_of_getElem? hx0)).1
        obtain ⟨g1, g2, -⟩ := hR.2.2.2.2.2.2.2.2.1 x hxk
        have hpair : (nad Γ x.1, nI x.2.1, no3) = (gna γ' f, gfc γ' f, gft γ' f) := by
          have q := congrArg (fun l => l[0]?) hmap
          simp only [List.getElem?_map, hx0, hel, Option.map_some] at q
          exact Option.some.inj q
        obtain ⟨e1, e23⟩ := Prod.mk.inj hpair
        obtain ⟨e2, e3⟩ := Prod.mk.inj e23
        obtain ⟨va, w0, w1, w2, p1, p2, -⟩ := hR.2.1.2.1.2.2.1 f hmd
        rw [← e1, ← e2] at p2
        have hL : (kdrop d (sK σ')).length + 1 = (sK σ').length := kdrop_len (by
          intro zz
          have zz' : kf σ' d = [] := zz
          rw [zz'] at hk; cases hk)
        have hB : RepB M1 A Γ (uK σ' (kdrop d (sK σ'))) (mv γ' (7, d) ((gG γ' (7, d)).eraseIdx 0) f (4, 0)) b := by
          rw [hM1]
          refine hR.2.1.list (r0 := (7, d)) (r1 := (4, 0)) (f := f) (σ' := uK σ' (kdrop d (sK σ'))) (act_7 hcd') ext_qput ⟨_, by rw [ad_7, Sq_qput, if_pos rfl]⟩ (hR.2.1.2.2.1.unkeep hcd' hel) ⟨rfl, rfl, rfl, rfl, rfl, rfl⟩ ?_
          rw [if_neg ne27]
          refine (hR.2.1.2.2.2.2.2.2.less hw' hy (List.length_eraseIdx_le _ _) (fun zz => ?_)).kk ?_
          · rw [zz] at hro; rw [ad_2, hro] at hro2; exact ne27 hro2.symm
          · show _ + 1500 * (kdrop d (sK σ')).length ≤ _ + 1500 * (sK σ').length
            rw [← hL]
            exact ar5 _ _
        have hX1 : XE A M' M1 := by rw [hM1]; exact ext_qput.mono (fun _ _ => False.elim) (fun _ _ => trivial) (fun _ => False.elim) (fun _ => False.elim)
        have p2' : So M1 5 f = some [.ref (aV A), .ref va, .ref (nad Γ x.1), .int (nI x.2.1), .int (nI (cnt (gft γ' f)))] := by rw [hM1]; exact p2
        have hH1 : So M1 10 (aT A) = some [.ref (aV A), .ref (aN A), .ref (aF A), .ref (aR A), .ref (aX A), .ref (aC A), .ref (aQ A), .int (nI (sNt σ')), .int (nI (sK σ').length), .int (nI (sTr σ')), .int (nI (sW σ')), .int (nI (sAl σ')), .int (nI (sB σ'))] := by rw [hM1]; exact hH
        clear hM1
        refine xw_cast (ci := 5) dX9_store_78 p2' rfl tw_454 ?_
        refine xw_astore (L2 := [(6, .ref f), (5, .int (nI (k + 1))), (0, .ref (aT A)), (1, .ref (nad Γ i)), (2, .int (nI c)), (3, .ref a), (4, .ref w)]) dX9_store_81 (by decide) rfl ?_
        refine xw_aload dX9_store_83 rfl ?_
        refine xw_get (ci := 5) (k := 2) (v := .ref (nad Γ x.1)) dX9_store_85 p2' rfl inX4 (by decide) tw_380 (Or.inl rfl) rfl ?_
        refine xw_astore (L2 := [(7, .ref (nad Γ x.1)), (6, .ref f), (5, .int (nI (k + 1))), (0, .ref (aT A)), (1, .ref (nad Γ i)), (2, .int (nI c)), (3, .ref a), (4, .ref w)]) dX9_store_88 (by decide) rfl ?_
        refine xw_aload dX9_store_90 rfl ?_
        refine xw_get (ci := 5) (k := 3) (v := .int (nI x.2.1)) dX9_store_92 p2' rfl inX4 (by decide) tw_384 (Or.inl rfl) rfl ?_
        refine xw_istore (L2 := [(8, .int (nI x.2.1)), (7, .ref (nad Γ x.1)), (6, .ref f), (5, .int (nI (k + 1))), (0, .ref (aT A)), (1, .ref (nad Γ i)), (2, .int (nI c)), (3, .ref a), (4, .ref w)]) dX9_store_95 (by decide) rfl ?_
        refine xw_aload_n dX9_store_97 rfl rfl ?_
        refine xw_dup dX9_store_98 rfl ?_
        refine xw_get (ci := 10) (k := 8) (v := .int (nI (sK σ').length)) dX9_store_99 hH1 rfl inX9 (by decide) tw_188 (Or.inl rfl) rfl ?_
        refine xw_iconst (v := 1) dX9_store_102 (by decide) ?_
        refine xw_isub dX9_store_103 ?_
        rw [show nI (sK σ').length - 1 = nI (kdrop d (sK σ')).length by rw [← hL, nI_pred]]
        refine xw_put (ci := 10) (k := 8) tyX9 dX9_store_104 hH1 rfl inX9 tyX9_ok nmX9 (by decide) tw_188 (Or.inl rfl) rfl rfl rfl rfl (Nat.le_of_ble_eq_true rfl) ?_
        dsimp only [List.set]
        have hR2 : Rep (oput M1 10 (aT A) (some [.ref (aV A), .ref (aN A), .ref (aF A), .ref (aR A), .ref (aX A), .ref (aC A), .ref (aQ A), .int (nI (sNt σ')), .int (nI (kdrop d (sK σ')).length), .int (nI (sTr σ')), .int (nI (sW σ')), .int (nI (sAl σ')), .int (nI (sB σ'))])) A Γ (uK σ' (kdrop d (sK σ'))) (mv γ' (7, d) ((gG γ' (7, d)).eraseIdx 0) f (4, 0)) b := ⟨by rw [So_oput, if_pos ⟨rfl, rfl⟩]; rfl, hB.hd, hR.2.2.kd⟩
        have hX2 : XE A M' (oput M1 10 (aT A) (some [.ref (aV A), .ref (aN A), .ref (aF A), .ref (aR A), .ref (aX A), .ref (aC A), .ref (aQ A), .int (nI (sNt σ')), .int (nI (kdrop d (sK σ')).length), .int (nI (sTr σ')), .int (nI (sW σ')), .int (nI (sAl σ')), .int (nI (sB σ'))])) := hX1.tr xe_hd
        generalize oput M1 10 (aT A) (some [.ref (aV A), .ref (aN A), .ref (aF A), .ref (aR A), .ref (aX A), .ref (aC A), .ref (aQ A), .int (nI (sNt σ')), .int (nI (kdrop d (sK σ')).length), .int (nI (sTr σ')), .int (nI (sW σ')), .int (nI (sAl σ')), .int (nI (sB σ'))]) = M2 at hR2 hX2 ⊢
        have hfl : fly (mv γ' (7, d) ((gG γ' (7, d)).eraseIdx 0) f (4, 0)) f := ⟨hmd, by rw [mv_pl, if_pos rfl]⟩
        refine xw_aload_n dX9_store_107 rfl rfl ?_
        refine xw_pc (pc2 := 108) rfl ?_
        refine xw_get (ci := 10) (k := 2) (v := .ref (aF A)) dX9_store_108 hR2.hdr rfl inX9 (by decide) tw_182 (Or.inl rfl) rfl ?_
        refine xw_aload dX9_store_111 rfl ?_
        refine xw_callV (q2 := mX5_takeBack) (n2 := 1) (ci := 6) (Bs := [.ref f]) (rest := []) (ct_takeBack hR2.2.1 hfl (by omega)) dX9_store_113 rfl (o_at hR2.2.1.2.1.2.2.2.1) rfl rfl tw_622 tw_439 tw_440 tw_44 tw_441 (by decide +kernel) rfl (Nat.le_of_ble_eq_true rfl) (Nat.le_of_ble_eq_true rfl) (Nat.le_of_ble_eq_true rfl) (fun rr M1 hr hle1 => ?_)
        obtain ⟨rfl, γ2, hR3, hk2, hXF⟩ := hr
        have hR4 : Rep M1 A Γ (uK σ' (kdrop d (sK σ'))) γ2 b := ⟨hXF.so hR2.1 (by decide), hR3, hR2.2.2⟩
        have hX4 : XE A M' M1 := hX2.tr hXF.xe
        refine xw_aload_n dX9_store_116 rfl rfl ?_
        refine xw_aload dX9_store_117 rfl ?_
        refine xw_aload dX9_store_119 rfl ?_
        refine xw_iload dX9_store_121 rfl ?_
        have q1 := ct_give (G := G) (i := x.1) (c := x.2.1) (w := w) (v := z) hR4 (by omega) g1 g2 (hX4.val hwv') hz'
        refine xw_callV (q2 := mX9_give) (n2 := 3) (ci := 10) (Bs := [.ref (nad Γ x.1), .ref w, .int (nI x.2.1)]) (rest := []) (q1) dX9_store_123 rfl (o_at hR4.1) rfl rfl tw_627 tw_629 tw_8 tw_39 tw_630 (by decide +kernel) rfl (Nat.le_of_ble_eq_true rfl) (Nat.le_of_ble_eq_true rfl) (Nat.le_of_ble_eq_true rfl) (fun rr M1 hr hle1 => ?_)
        obtain ⟨rfl, γ3, hR5, hcd5, hX5⟩ := hr
        refine xw_iinc (v := (nI (k + 1)) + (-1)) (L2 := [(5, .int ((nI (k + 1)) + (-1))), (8, .int (nI x.2.1)), (7, .ref (nad Γ x.1)), (6, .ref f), (0, .ref (aT A)), (1, .ref (nad Γ i)), (2, .int (nI c)), (3, .ref a), (4, .ref w)]) dX9_store_126 rfl rfl (by decide) rfl ?_
        refine xw_goto (tgt := 58) dX9_store_129 (by decide) ?_
        rw [nI_dec]
        refine xw_sub (L2 := [(5, .int (nI k)), (0, .ref (aT A)), (1, .ref (nad Γ i)), (2, .int (nI c)), (3, .ref a), (4, .ref w)]) (.cons_cons _ (.cons _ (.cons _ (.cons _ (.cons_cons _ (.cons_cons _ (.cons_cons _ (.cons_cons _ (.cons_cons _ .slnil))))))))) ?_
        have hsm := give_same (uK σ' (kdrop d (sK σ'))) x.1 x.2.1 z
        refine ih M1 _ γ3 ?_ hR5 ⟨hcd5.1.trans (hk2.2.1.1.trans hcd.1), hcd5.2.trans (hk2.2.1.2.trans hcd.2)⟩ (hX5.val (hX4.val hwv')) ?_ ?_ (hX.tr (hX4.tr hX5))
        · rw [kf_same (σ := uK σ' (kdrop d (sK σ'))) hsm.2.1]
          show ((kdrop d (sK σ')).filter (fun x => x.2.2 == d)).length = k
          rw [kdrop_f, if_pos rfl, List.length_eraseIdx_of_lt (by show 0 < (kf σ' d).length; omega)]
          show (kf σ' d).length - 1 = k
          omega
        · rw [hsm.1.2.2.1]; exact hz'
        · rw [← hS]
          show serves d z k _ = if sTr σ' ≠ 0 then σ' else serves d z k (serveAt (kf σ' d).head? σ' d z)
          rw [if_neg (by omega), hx]
          rfl
  refine ct_wf fun hw => ?_
  refine ct_go (by decide +kernel) (Nat.le_of_ble_eq_true rfl) (L := [(0, .ref (aT A)), (1, .ref (nad Γ i)), (2, .int (nI c)), (3, .ref a), (4, .ref w)]) rfl ?_
  have hH := h.hdr
  obtain ⟨c1, c2, u, c3, c4⟩ := h.2.1.2.2.2.2.1.2.2.2.2.1 d a hd
  have hnv := h.2.1.2.1.2.2.2.2
  refine xw_aload_n dX9_store_0 rfl rfl ?_
  refine xw_ifnonnull (tgt := 22) dX9_store_1 (by decide) ?_
  refine xw_aload_n dX9_store_22 rfl rfl ?_
  rcases c4 with ⟨e0, hwn⟩ | ⟨v, e0, e1, e2⟩
  · rw [hwn] at c3
    refine xw_callV (q2 := mX1_isWritten) (n2 := 0) (ci := 2) (Bs := []) (rest := []) (ct_isWritten c3 hnv) dX9_store_23 rfl (o_at c3) rfl rfl tw_716 tw_717 tw_718 tw_62 tw_719 (by decide +kernel) rfl (Nat.le_of_ble_eq_true rfl) (Nat.le_of_ble_eq_true rfl) (Nat.le_of_ble_eq_true rfl) (fun rr M1 hr hle1 => ?_)
    obtain ⟨rfl, hM1⟩ := hr
    obtain rfl := hM1.symm
    rw [if_pos rfl]
    refine xw_if_eq (tgt := 35) dX9_store_26 (by decide) (fun _ => ?_) (fun zz => absurd (by decide) zz)
    refine xw_aload_n dX9_store_35 rfl rfl ?_
    refine xw_aload dX9_store_36 rfl ?_
    refine xw_put (ci := 2) (k := 1) tyX1 dX9_store_38 c3 rfl inX1 tyX1_ok nmX1 (by decide) tw_701 (Or.inl rfl) rfl rfl rfl rfl (Nat.le_of_ble_eq_true rfl) ?_
    dsimp only [List.set]
    have hd8 : d < 8 * sA σ := by
      obtain ⟨k, j, h1, h2, h3⟩ := hdd
      have := h.2.2.2.2.2.1.2.1 k h1
      omega
    have hR2 : Rep (oput M 2 a (some [.ref (gkl γ d), .ref w])) A Γ (cset σ d z) γ b := ⟨by rw [So_oput, if_neg (fun zz => absurd zz.1 (by decide))]; exact h.1, h.2.1.wr hd hwv hz.ne3, h.2.2.ce hd8 hz⟩
    have hX2 : XE A M (oput M 2 a (some [.ref (gkl γ d), .ref w])) := ext_oput.mono (fun _ _ zz => Or.inr (Or.inl zz.1)) (fun _ => False.elim) (fun _ => False.elim) (fun _ => False.elim)
    generalize oput M 2 a (some [.ref (gkl γ d), .ref w]) = M2 at hR2 hX2 ⊢
    refine xw_aload_n dX9_store_41 rfl rfl ?_
    refine xw_aload_n dX9_store_42 rfl rfl ?_
    refine xw_aload dX9_store_43 rfl ?_
    refine xw_iload_n dX9_store_45 rfl rfl ?_
    refine xw_pc (pc2 := 46) rfl ?_
    have q1 := ct_give (G := G) (i := i) (c := c) (w := w) (v := z) hR2 (by omega) hi hc (hX2.val hwv) hz
    refine xw_callV (q2 := mX9_give) (n2 := 3) (ci := 10) (Bs := [.ref (nad Γ i), .ref w, .int (nI c)]) (rest := []) (q1) dX9_store_46 rfl (o_at hR2.1) rfl rfl tw_627 tw_629 tw_8 tw_39 tw_630 (by decide +kernel) rfl (Nat.le_of_ble_eq_true rfl) (Nat.le_of_ble_eq_true rfl) (Nat.le_of_ble_eq_true rfl) (fun rr M1 hr hle1 => ?_)
    obtain ⟨rfl, γ1, hR1, hcd1, hX1⟩ := hr
    have hcd' : gcd γ1 d = some a := by rw [hcd1.1]; exact hd
    obtain ⟨-, -, u', c3', -⟩ := hR1.2.1.2.2.2.2.1.2.2.2.2.1 d a hcd'
    obtain ⟨⟨y, hy⟩, -⟩ := hR1.2.1.2.1.2.1 (7, d) (act_7 hcd')
    rw [ad_7] at hy
    have hsm := give_same (cset σ d z) i c z
    have hkf : kf (give (cset σ d z) i c z) d = kf σ d := (kf_same (σ := cset σ d z) hsm.2.1 d).trans rfl
    have hmap := hR1.2.1.2.2.1.2.2.2.2.2.1 d ⟨a, hcd'⟩
    have hlen : (gG γ1 (7, d)).length = (kf σ d).length := by
      have q := congrArg List.length hmap
      rw [List.length_map, List.length_map, hkf] at q
      omega
    refine xw_aload_n dX9_store_49 rfl rfl ?_
    refine xw_get (ci := 2) (k := 0) (v := .ref (gkl γ1 d)) dX9_store_50 c3' rfl inX1 (by decide) tw_698 (Or.inl rfl) rfl ?_
    refine xw_callV (q2 := mJx4a65c_size_8abf5) (n2 := 0) (ci := 0) (Bs := []) (rest := []) (ct_size hy) dX9_store_53 rfl (q_at hy) rfl rfl tw_228 tw_229 tw_230 tw_43 tw_231 (by decide +kernel) rfl (Nat.le_of_ble_eq_true rfl) (Nat.le_of_ble_eq_true rfl) (Nat.le_of_ble_eq_true rfl) (fun rr M1 hr hle1 => ?_)
    obtain ⟨rfl, hM1⟩ := hr
    obtain rfl := hM1.symm
    rw [show nI (gG γ1 (7, d), y).1.length = nI (kf σ d).length from congrArg nI hlen]
    refine xw_istore (L2 := [(5, .int (nI (kf σ d).length)), (0, .ref (aT A)), (1, .ref (nad Γ i)), (2, .int (nI c)), (3, .ref a), (4, .ref w)]) dX9_store_56 (by decide) rfl ?_
    have hst : stored (some d) σ i c z = serves d z (kf σ d).length (give (cset σ d z) i c z) := by
      show (if (sCe σ d).isSome = true then _ else _) = _
      rw [e0]; rfl
    rw [hst]
    exact xw_pc rfl (loop _ (kf σ d).length _ _ γ1 (congrArg List.length hkf) hR1 hcd1 (hX1.val (hX2.val hwv)) (by rw [hsm.1.2.2.1]; exact hz) rfl (hX2.tr hX1))
  · skip
    refine xw_callV (q2 := mX1_isWritten) (n2 := 0) (ci := 2) (Bs := []) (rest := []) (ct_isWritten c3 e1) dX9_store_23 rfl (o_at c3) rfl rfl tw_716 tw_717 tw_718 tw_62 tw_719 (by decide +kernel) rfl (Nat.le_of_ble_eq_true rfl) (Nat.le_of_ble_eq_true rfl) (Nat.le_of_ble_eq_true rfl) (fun rr M1 hr hle1 => ?_)
    obtain ⟨rfl, hM1⟩ := hr
    obtain rfl := hM1.symm
    rw [if_neg e2]
    refine xw_if_eq (tgt := 35) dX9_store_26 (by decide) (fun zz => absurd zz (by decide)) (fun _ => ?_)
    refine xw_aload_n dX9_store_29 rfl rfl ?_
    refine xw_iconst (v := 3) dX9_store_30 (by decide) ?_
    refine xw_put (ci := 10) (k := 9) tyX9 dX9_store_31 hH rfl inX9 tyX9_ok nmX9 (by decide) tw_189 (Or.inl rfl) rfl rfl rfl rfl (Nat.le_of_ble_eq_true rfl) ?_
    dsimp only [List.set]
    have hst : stored (some d) σ i c z = uTr σ 3 := by
      show (if (sCe σ d).isSome = true then _ else _) = _
      rw [e0]; rfl
    rw [hst]
    exact xw_vret rfl dX9_store_34 ⟨rfl, γ, (h.tr (n := 3) (by decide)).mono (by omega), ⟨rfl, rfl⟩, xe_hd⟩
end STORE
