/-! THE CLASS: makeArray, fetch -/
/-- what a method that answers nothing leaves behind, cells too -/
abbrev RZ (M : hx_S) (A : hA) (Γ : hG) (σ1 : hs_S) (b1 : Nat) : Option Value → hx_S → Prop := fun r M1 => r = none ∧ ∃ γ1, Rep M1 A Γ σ1 γ1 b1 ∧ XE A M M1
theorem ar3 {x y k : Nat} (h : x + 102 * (k + 1) ≤ y) : x + 102 + 102 * k ≤ y := by rw [Nat.mul_succ] at h; omega
theorem nI_m1 {n : Nat} (h : n < 2 ^ 31) : ¬ nI n = -1 := by
  intro z
  have q := nI_toInt h
  rw [z] at q
  have e : (-1 : Int32).toInt = -1 := by decide
  omega
section ARR
variable {G : hx_G} {M M1 : hx_S} {A : hA} {Γ : hG} {σ : hs_S} {γ : hf_S} {b : Nat} {v : V2}
theorem xe_nc (hw : Wf M) {nv k a : Nat} {x : Option (Nat × (Nat → Option Nat))} : XE A M (rput (nc M nv) k a x) := ((ext_nc hw).mono (fun _ _ => False.elim) (fun _ => False.elim) (fun _ => False.elim) (fun _ => False.elim)).tr (ext_rput.mono (fun _ _ => False.elim) (fun _ => False.elim) (fun _ _ => trivial) (fun _ => False.elim))
theorem RepB.arr {n : Nat} {fl : Nat → Int32} (h : RepB M A Γ σ γ b) (hfl : Si M (aL A) = some (40, fl)) (ha : sA σ < 40) (hn : ∀ i, i < n → ∃ a, gcd γ (8 * sA σ + i) = some a) : RepB (oput (iput M (aL A) (some (40, upd fl (sA σ) (nI n)))) 3 (aC A) (some [.ref (aV A), .ref (aW A), .ref (aL A), .int (nI (sA σ + 1))])) A Γ (mkA σ n) γ b := by
  have e : Ext M (oput (iput M (aL A) (some (40, upd fl (sA σ) (nI n)))) 3 (aC A) (some [.ref (aV A), .ref (aW A), .ref (aL A), .int (nI (sA σ + 1))])) (fun c x => c = 3 ∧ x = aC A) no1 no1 (fun x => x = aL A) := (ext_iput.mono (fun _ _ => False.elim) (fun _ => id) (fun _ => id) (fun _ => id)).tr (ext_oput.mono (fun _ _ => id) (fun _ => id) (fun _ => id) (fun _ => False.elim))
  obtain ⟨k1, k2, k3, k4, ⟨c1, ⟨c2, c3⟩, ⟨fl', c4, c5⟩, ⟨c6, c7, c8, c9⟩, c10, c11⟩, k6, k7⟩ := h
  rw [hfl] at c4
  cases c4
  have n3 : ∀ c, c ≠ 3 → ∀ x, ¬ (c = 3 ∧ x = aC A) := fun c hc x z => hc z.1
  refine ⟨(k1.ext e (n3 7 (by decide)) (n3 1 (by decide)) (fun _ => False.elim)).cg rfl rfl, k2.ext e (n3 9 (by decide)) (n3 5 (by decide)) (n3 6 (by decide)) (fun _ => False.elim) (fun _ => False.elim), k3, k4.ext e (n3 4 (by decide)) ⟨fun z => ?_, fun z => ?_, fun z => ?_⟩, ⟨by rw [So_oput, if_pos ⟨rfl, rfl⟩]; rfl, ⟨e.2.2.1 _ _ _ c2 id, c3⟩, ⟨upd fl (sA σ) (nI n), by rw [Si_oput, Si_iput, if_pos rfl], fun k hk => ?_⟩, ⟨c6, c7, c8, c9⟩, fun d a hd => ?_, fun k i hk hi => ?_⟩, (k6.ext e (n3 9 (by decide)) (n3 8 (by decide)) (fun _ => False.elim)).cg rfl rfl, k7.same rfl rfl (fun _ => rfl)⟩
  · rw [show aO A = aL A from z, c6] at c7; cases c7
  · rw [show aS A = aL A from z, c6] at c8; cases c8
  · rw [show aU A = aL A from z, c6] at c9; cases c9
  · have hk' : k < sA σ + 1 := hk
    show upd fl (sA σ) (nI n) k = nI (if k = sA σ then n else sLe σ k)
    by_cases hks : k = sA σ
    · rw [hks, pk_us, if_pos rfl]
    · rw [pk_un hks, if_neg hks]; exact c5 k (by omega)
  · obtain ⟨m1, m2, w, m3, m4⟩ := c10 d a hd
    exact ⟨m1, m2, w, e.so m3 (n3 2 (by decide) _), m4.ext e (n3 9 (by decide))⟩
  · have hk' : k < sA σ + 1 := hk
    have hi' : i < (if k = sA σ then n else sLe σ k) := hi
    by_cases hks : k = sA σ
    · rw [if_pos hks] at hi'; rw [hks]; exact hn i hi'
    · rw [if_neg hks] at hi'; exact c11 k i (by omega) hi'
theorem ct_cmake (h : Rep M A Γ σ γ b) {n : Nat} (hn : n ≤ 8) : CT G 5 101 mX2_makeArray [.ref (aC A), .int (nI n)] M (fun r M1 => (40 ≤ sA σ ∧ r = some (.int (-1)) ∧ M1 = M) ∨ (sA σ < 40 ∧ r = some (.int (nI (sA σ))) ∧ ∃ γ1, Rep M1 A Γ (mkA σ n) γ1 (b + 816) ∧ XE A M M1)) := by
  obtain ⟨k1, -⟩ := h.2.1.2.2.2.2.1
  have hA40 := h.2.2.2.2.2.1.1
  have hCe := h.2.2.2.2.2.1.2.2
  have loop : sA σ < 40 → ∀ (k j : Nat) (M' : hx_S) (γ' : hf_S) (b' : Nat), j + k = n → Rep M' A Γ σ γ' b' → b' + 102 * k ≤ b + 816 → (∀ i, i < j → ∃ a, gcd γ' (8 * sA σ + i) = some a) → XE A M M' → XW G 5 101 mX2_makeArray [.ref (aC A), .int (nI n)] M (fun r M1 => (40 ≤ sA σ ∧ r = some (.int (-1)) ∧ M1 = M) ∨ (sA σ < 40 ∧ r = some (.int (nI (sA σ))) ∧ ∃ γ1, Rep M1 A Γ (mkA σ n) γ1 (b + 816) ∧ XE A M M1)) M' 34 [(4, .int (nI (8 * sA σ + j))), (3, .int (nI (8 * sA σ))), (2, .int (nI (sA σ))), (0, .ref (aC A)), (1, .int (nI n))] [] := by
    intro ha k
    induction k with
    | zero =>
      intro j M' γ' b' hjk hR hbb hex hX
      obtain ⟨c1, ⟨c2, -⟩, ⟨fl, c4, c5⟩, -⟩ := hR.2.1.2.2.2.2.1
      refine xw_iload dX2_makeArray_34 rfl ?_
      refine xw_iload_n dX2_makeArray_36 rfl rfl ?_
      refine xw_iload_n dX2_makeArray_37 rfl rfl ?_
      refine xw_iadd dX2_makeArray_38 ?_
      rw [nI_add]
      refine xw_icmp_ge (tgt := 86) dX2_makeArray_39 (by decide) (fun _ => ?_) (fun zz => absurd (nI_le (show 8 * sA σ + n ≤ 8 * sA σ + j by omega) (by omega)) zz)
      refine xw_aload_n dX2_makeArray_86 rfl rfl ?_
      refine xw_get (ci := 3) (k := 2) (v := .ref (aL A)) dX2_makeArray_87 c1 rfl inX2 (by decide) tw_168 (Or.inl rfl) rfl ?_
      refine xw_iload_n dX2_makeArray_90 rfl rfl ?_
      refine xw_iload_n dX2_makeArray_91 rfl rfl ?_
      refine xw_iast dX2_makeArray_92 c4 (vp_in_nI (show sA σ < 40 from ha) (by decide)) ?_
      rw [nI_clamp (show sA σ < 2 ^ 31 by omega)]
      refine xw_aload_n dX2_makeArray_93 rfl rfl ?_
      refine xw_dup dX2_makeArray_94 rfl ?_
      refine xw_get (ci := 3) (k := 3) (v := .int (nI (sA σ))) dX2_makeArray_95 (show So (iput M' (aL A) _) 3 (aC A) = _ from c1) rfl inX2 (by decide) tw_169 (Or.inl rfl) rfl ?_
      refine xw_iconst (v := 1) dX2_makeArray_98 (by decide) ?_
      refine xw_iadd dX2_makeArray_99 ?_
      rw [nI_1]
      refine xw_put (ci := 3) (k := 3) tyX2 dX2_makeArray_100 (show So (iput M' (aL A) _) 3 (aC A) = _ from c1) rfl inX2 tyX2_ok nmX2 (by decide) tw_169 (Or.inl rfl) rfl rfl rfl rfl (Nat.le_of_ble_eq_true rfl) ?_
      dsimp only [List.set]
      refine xw_iload_n dX2_makeArray_103 rfl rfl ?_
      refine xw_pc (pc2 := 104) rfl ?_
      have hB := hR.2.1.arr c4 ha (n := n) (fun i hi => hex i (by omega))
      have e : XE A M' (oput (iput M' (aL A) (some (40, upd fl (sA σ) (nI n)))) 3 (aC A) (some [.ref (aV A), .ref (aW A), .ref (aL A), .int (nI (sA σ + 1))])) := (ext_iput.mono (fun _ _ => False.elim) (fun _ => False.elim) (fun _ => False.elim) (fun _ z => Or.inr (Or.inr (Or.inr z)))).tr (ext_oput.mono (fun _ _ z => Or.inr (Or.inr (Or.inl z.1))) (fun _ => False.elim) (fun _ => False.elim) (fun _ => False.elim))
      exact xw_iret rfl dX2_makeArray_104 (Or.inr ⟨ha, rfl, γ', ⟨by rw [So_oput, if_neg (fun z => absurd z.1 (by decide))]; exact hR.1, hB.mono (by omega), h.2.2.mkA ha hn⟩, hX.tr e⟩)
    | succ k ih =>
      intro j M' γ' b' hjk hR hbb hex hX
      obtain ⟨c1, ⟨c2, -⟩, ⟨fl, c4, c5⟩, -⟩ := hR.2.1.2.2.2.2.1
      have hbb' := ar3 hbb
      refine xw_iload dX2_makeArray_34 rfl ?_
      refine xw_iload_n dX2_makeArray_36 rfl rfl ?_
      refine xw_iload_n dX2_makeArray_37 rfl rfl ?_
      refine xw_iadd dX2_makeArray_38 ?_
      rw [nI_add]
      refine xw_icmp_ge (tgt := 86) dX2_makeArray_39 (by decide) (fun zz => absurd zz (nI_ge (show 8 * sA σ + j < 8 * sA σ + n by omega) (by omega))) (fun _ => ?_)
      refine xw_iload dX2_makeArray_42 rfl ?_
      refine xw_aload_n dX2_makeArray_44 rfl rfl ?_
      refine xw_get (ci := 3) (k := 1) (v := .ref (aW A)) dX2_makeArray_45 c1 rfl inX2 (by decide) tw_167 (Or.inl rfl) rfl ?_
      refine xw_rlen dX2_makeArray_48 c2 ?_
      refine xw_icmp_ge (tgt := 86) dX2_makeArray_49 (by decide) (fun zz => absurd zz (show ¬ nI 320 ≤ nI (8 * sA σ + j) from nI_ge (by omega) (by decide))) (fun _ => ?_)
      refine xw_aload_n dX2_makeArray_52 rfl rfl ?_
      refine xw_get (ci := 3) (k := 1) (v := .ref (aW A)) dX2_makeArray_53 c1 rfl inX2 (by decide) tw_167 (Or.inl rfl) rfl ?_
      refine xw_iload dX2_makeArray_56 rfl ?_
      have hin : vp_in (nI (8 * sA σ + j)) 320 := vp_in_nI (by omega) (by decide)
      cases hcd : gcd γ' (8 * sA σ + j) with
      | some ca =>
        refine xw_aald (v := .ref ca) dX2_makeArray_58 c2 hin (by rw [nI_clamp (by omega), hcd]; rfl) ?_
        refine xw_ifnonnull (tgt := 80) dX2_makeArray_59 (by decide) ?_
        refine xw_iinc (v := (nI (8 * sA σ + j)) + 1) (L2 := [(4, .int ((nI (8 * sA σ + j)) + 1)), (3, .int (nI (8 * sA σ))), (2, .int (nI (sA σ))), (0, .ref (aC A)), (1, .int (nI n))]) dX2_makeArray_80 rfl rfl (by decide) rfl ?_
        refine xw_goto (tgt := 34) dX2_makeArray_83 (by decide) ?_
        rw [nI_1]
        refine ih (j + 1) M' γ' b' (by omega) hR (by omega) (fun i hi => ?_) hX
        by_cases hij : i = j
        · rw [hij]; exact ⟨ca, hcd⟩
        · exact hex i (by omega)
      | none =>
        refine xw_wf fun hw => ?_
        refine xw_aald (v := .null) dX2_makeArray_58 c2 hin (by rw [nI_clamp (by omega), hcd]; rfl) ?_
        refine xw_ifnonnullN dX2_makeArray_59 ?_
        refine xw_aload_n dX2_makeArray_62 rfl rfl ?_
        refine xw_get (ci := 3) (k := 1) (v := .ref (aW A)) dX2_makeArray_63 c1 rfl inX2 (by decide) tw_167 (Or.inl rfl) rfl ?_
        refine xw_iload dX2_makeArray_66 rfl ?_
        refine xw_pc (pc2 := 68) rfl ?_
        refine xw_new (ci := 2) (fs := [.null, .null]) tyX1 dX2_makeArray_68 rfl inX1 tyX1_ok (by decide) tw_164 tw_689 tw_62 (fun j hj => by rcases (show j = 0 ∨ j = 1 by omega) with rfl | rfl <;> rfl) ?_
        refine xw_dup dX2_makeArray_71 rfl ?_
        refine xw_aload_n dX2_makeArray_72 rfl rfl ?_
        refine xw_get (ci := 3) (k := 0) (v := .ref (aV A)) dX2_makeArray_73 ((ext_new hw).so c1 id) rfl inX2 (by decide) tw_166 (Or.inl rfl) rfl ?_
        refine xw_callI (q2 := mX1_init) (n2 := 1) (Bs := [.ref (aV A)]) (rest := [.ref (Sz M'), .int (nI (8 * sA σ + j)), .ref (aW A)]) (ct_Cell (a := Sz M') (show So (oput (grow M' 2 2) 2 (Sz M') _) 2 (Sz M') = some [.null, .null] by rw [So_oput, if_pos ⟨rfl, rfl⟩])) rfl dX2_makeArray_76 rfl rfl tw_690 tw_691 tw_62 tw_692 (by decide +kernel) rfl (Nat.le_of_ble_eq_true rfl) (Nat.le_of_ble_eq_true rfl) (Nat.le_of_ble_eq_true rfl) (fun rr M1 hr hle1 => ?_)
        obtain ⟨rfl, hM1⟩ := hr
        obtain rfl : M1 = nc M' (aV A) := hM1
        refine xw_aast dX2_makeArray_79 (show Sr (nc M' (aV A)) 0 (aW A) = some (320, gcd γ') from c2) hin (show So (nc M' (aV A)) 2 (Sz M') = _ by rw [So_nc, if_pos ⟨rfl, rfl⟩]) rfl (fit_same (ci := 2) rfl rfl) ?_
        rw [nI_clamp (show 8 * sA σ + j < 2 ^ 31 by omega)]
        have hB := hR.2.1.newcell (c := 8 * sA σ + j) hw hcd (by omega) (by
          cases q : sCe σ (8 * sA σ + j) with
          | none => rfl
          | some v => have := (hCe _ v q).1; omega)
        refine xw_iinc (v := (nI (8 * sA σ + j)) + 1) (L2 := [(4, .int ((nI (8 * sA σ + j)) + 1)), (3, .int (nI (8 * sA σ))), (2, .int (nI (sA σ))), (0, .ref (aC A)), (1, .int (nI n))]) dX2_makeArray_80 rfl rfl (by decide) rfl ?_
        refine xw_goto (tgt := 34) dX2_makeArray_83 (by decide) ?_
        rw [nI_1]
        refine ih (j + 1) _ (newc γ' (8 * sA σ + j) (Sz M')) (b' + 102) (by omega) ⟨?_, hB, hR.2.2⟩ hbb' (fun i hi => ?_) (hX.tr (xe_nc hw))
        · rw [So_rput, So_nc, if_neg (fun z => absurd z.1 (by decide))]; exact hR.1
        · show ∃ a, (if 8 * sA σ + i = 8 * sA σ + j then some (Sz M') else gcd γ' (8 * sA σ + i)) = some a
          by_cases hij : i = j
          · rw [hij, if_pos rfl]; exact ⟨_, rfl⟩
          · rw [if_neg (by omega)]; exact hex i (by omega)
  refine ct_go (by decide +kernel) (Nat.le_of_ble_eq_true rfl) (L := [(0, .ref (aC A)), (1, .int (nI n))]) rfl ?_
  refine xw_aload_n dX2_makeArray_0 rfl rfl ?_
  refine xw_get (ci := 3) (k := 3) (v := .int (nI (sA σ))) dX2_makeArray_1 k1 rfl inX2 (by decide) tw_169 (Or.inl rfl) rfl ?_
  refine xw_bipush (v := 40) dX2_makeArray_4 (by decide) ?_
  refine xw_icmp_ge (tgt := 19) dX2_makeArray_6 (by decide) (fun d1 => ?_) (fun d1 => ?_)
  · have ha : 40 ≤ sA σ := Nat.le_of_not_lt (fun z => absurd d1 (show ¬ nI 40 ≤ nI (sA σ) from nI_ge z (by decide)))
    refine xw_iconst (v := (-1)) dX2_makeArray_19 (by decide) ?_
    exact xw_iret rfl dX2_makeArray_20 (Or.inl ⟨ha, rfl, rfl⟩)
  · have ha : sA σ < 40 := Nat.lt_of_not_le (fun z => d1 (show nI 40 ≤ nI (sA σ) from nI_le z (by omega)))
    refine xw_iload_n dX2_makeArray_9 rfl rfl ?_
    refine xw_if_lt (tgt := 19) dX2_makeArray_10 (by decide) (fun zz => absurd zz (nI_pos (by omega))) (fun _ => ?_)
    refine xw_iload_n dX2_makeArray_13 rfl rfl ?_
    refine xw_bipush (v := 8) dX2_makeArray_14 (by decide) ?_
    refine xw_icmp_le (tgt := 21) dX2_makeArray_16 (by decide) (fun _ => ?_) (fun zz => absurd (show nI n ≤ nI 8 from nI_le hn (by decide)) zz)
    refine xw_aload_n dX2_makeArray_21 rfl rfl ?_
    refine xw_get (ci := 3) (k := 3) (v := .int (nI (sA σ))) dX2_makeArray_22 k1 rfl inX2 (by decide) tw_169 (Or.inl rfl) rfl ?_
    refine xw_istore_n (L2 := [(2, .int (nI (sA σ))), (0, .ref (aC A)), (1, .int (nI n))]) dX2_makeArray_25 rfl (by decide) rfl ?_
    refine xw_iload_n dX2_makeArray_26 rfl rfl ?_
    refine xw_bipush (v := 8) dX2_makeArray_27 (by decide) ?_
    refine xw_imul dX2_makeArray_29 ?_
    refine xw_istore_n (L2 := [(3, .int ((nI (sA σ)) * 8)), (2, .int (nI (sA σ))), (0, .ref (aC A)), (1, .int (nI n))]) dX2_makeArray_30 rfl (by decide) rfl ?_
    refine xw_iload_n dX2_makeArray_31 rfl rfl ?_
    refine xw_istore (L2 := [(4, .int ((nI (sA σ)) * 8)), (3, .int ((nI (sA σ)) * 8)), (2, .int (nI (sA σ))), (0, .ref (aC A)), (1, .int (nI n))]) dX2_makeArray_32 (by decide) rfl ?_
    refine xw_pc (pc2 := 34) rfl ?_
    have e8 : nI (sA σ) * 8 = nI (8 * sA σ) := by rw [show (8 : Int32) = nI 8 from by decide +kernel, pk_mul, Nat.mul_comm]
    rw [e8]
    exact xw_pc rfl (loop ha n 0 M γ b (by omega) h (by omega) (fun i hi => absurd hi (by omega)) (XE.rf _ _))
def made (σ : hs_S) (i c : Nat) (x : V2) : hs_S := if x.2 < 0 ∨ 8 < x.2 then give σ i c (1, 2) else if 40 ≤ sA σ then uTr σ 2 else give (mkA σ x.2.toNatClampNeg) i c (2, lN (sA σ))
theorem ct_makeArray (h : Rep M A Γ σ γ b) (hb : b + 2400 ≤ 14400000) {i c : Nat} {x : V2} (hi : i < (sN σ).length) (hc : c < (sC σ).length) : CT G 10 230 mX9_makeArray [.ref (aT A), .ref (nad Γ i), .int (nI c), .long x.2] M (RZ M A Γ (made σ i c x) (b + 2400)) := by
  refine ct_wf fun hw => ?_
  refine ct_go (by decide +kernel) (Nat.le_of_ble_eq_true rfl) (L := [(0, .ref (aT A)), (1, .ref (nad Γ i)), (2, .int (nI c)), (3, .long x.2)]) rfl ?_
  have hH := h.hdr
  have bad : x.2 < 0 ∨ 8 < x.2 → XW G 10 230 mX9_makeArray [.ref (aT A), .ref (nad Γ i), .int (nI c), .long x.2] M (RZ M A Γ (made σ i c x) (b + 2400)) M 14 [(0, .ref (aT A)), (1, .ref (nad Γ i)), (2, .int (nI c)), (3, .long x.2)] [] := by
    intro hbad
    refine xw_aload_n dX9_makeArray_14 rfl rfl ?_
    refine xw_aload_n dX9_makeArray_15 rfl rfl ?_
    refine xw_new (ci := 9) (fs := [.int 0, .long 0]) tyX8 dX9_makeArray_16 rfl inX8 tyX8_ok (by decide) tw_73 tw_74 tw_40 (fun j hj => by rcases (show j = 0 ∨ j = 1 by omega) with rfl | rfl <;> rfl) ?_
    refine xw_dup dX9_makeArray_19 rfl ?_
    refine xw_iconst (v := 1) dX9_makeArray_20 (by decide) ?_
    refine xw_ldc2 (v := 2) tw_684 dX9_makeArray_21 ?_
    refine xw_callI (q2 := mX8_init) (n2 := 2) (Bs := [.int 1, .long 2]) (rest := [.ref (Sz M), .ref (nad Γ i), .ref (aT A)]) (ct_Value (a := Sz M) nv_0) rfl dX9_makeArray_24 rfl rfl tw_75 tw_76 tw_40 tw_77 (by decide +kernel) rfl (Nat.le_of_ble_eq_true rfl) (Nat.le_of_ble_eq_true rfl) (Nat.le_of_ble_eq_true rfl) (fun rr M1 hr hle1 => ?_)
    obtain ⟨rfl, hM1⟩ := hr
    rw [oput_oput] at hM1
    obtain rfl : M1 = nv M (1, 2) := hM1
    refine xw_iload_n dX9_makeArray_27 rfl rfl ?_
    have hR := h.nval hw (v := (1, 2))
    have q1 := ct_give (G := G) hR (by omega) hi hc nv_at (Or.inr (Or.inl ⟨rfl, 2, by decide, by decide, rfl⟩))
    refine xw_callV (q2 := mX9_give) (n2 := 3) (ci := 10) (Bs := [.ref (nad Γ i), .ref (Sz M), .int (nI c)]) (rest := []) (q1) dX9_makeArray_28 rfl (o_at hR.1) rfl rfl tw_627 tw_629 tw_8 tw_39 tw_630 (by decide +kernel) rfl (Nat.le_of_ble_eq_true rfl) (Nat.le_of_ble_eq_true rfl) (Nat.le_of_ble_eq_true rfl) (fun rr M1 hr hle1 => ?_)
    obtain ⟨rfl, γ1, hR1, hcd1, hX1⟩ := hr
    rw [show made σ i c x = give σ i c (1, 2) by unfold made; rw [if_pos hbad]]
    exact xw_vret rfl dX9_makeArray_31 ⟨rfl, γ1, hR1.mono (by omega), (xe_nv hw).tr hX1⟩
  refine xw_lload_n dX9_makeArray_0 rfl rfl ?_
  refine xw_lconst (v := 0) dX9_makeArray_1 (by decide) ?_
  refine xw_lcmp dX9_makeArray_2 ?_
  refine xw_if_lt (tgt := 14) dX9_makeArray_3 (by decide) (fun c1 => ?_) (fun c1 => ?_)
  · exact xw_pc rfl (bad (Or.inl ((lg_cmp_lt _ _).mp c1)))
  · have h1 : ¬ x.2 < 0 := fun z => c1 ((lg_cmp_lt _ _).mpr z)
    refine xw_lload_n dX9_makeArray_6 rfl rfl ?_
    refine xw_ldc2 (v := 8) tw_683 dX9_makeArray_7 ?_
    refine xw_lcmp dX9_makeArray_10 ?_
    refine xw_if_le (tgt := 32) dX9_makeArray_11 (by decide) (fun c2 => ?_) (fun c2 => ?_)
    · have h2 : x.2 ≤ 8 := (lg_cmp_le _ _).mp c2
      have hnb : ¬ (x.2 < 0 ∨ 8 < x.2) := fun z => z.elim h1 (fun z => absurd h2 (by rw [Int64.not_le]; exact z))
      obtain ⟨n, hn, hxn⟩ := pk_lOf h1
      have hn8 : n ≤ 8 := by rw [hxn] at h2; exact (pk_lLE hn (by decide)).mp (show lN n ≤ lN 8 from h2)
      have hcl : x.2.toNatClampNeg = n := by rw [hxn]; exact lN_clamp hn
      refine xw_aload_n dX9_makeArray_32 rfl rfl ?_
      refine xw_get (ci := 10) (k := 5) (v := .ref (aC A)) dX9_makeArray_33 hH rfl inX9 (by decide) tw_185 (Or.inl rfl) rfl ?_
      refine xw_lload_n dX9_makeArray_36 rfl rfl ?_
      refine xw_l2i dX9_makeArray_37 ?_
      refine xw_pc (pc2 := 38) rfl ?_
      rw [hxn, lN_i]
      refine xw_callV (q2 := mX2_makeArray) (n2 := 1) (ci := 3) (Bs := [.int (nI n)]) (rest := []) (ct_cmake h hn8) dX9_makeArray_38 rfl (o_at h.2.1.2.2.2.2.1.1) rfl rfl tw_685 tw_686 tw_687 tw_46 tw_688 (by decide +kernel) rfl (Nat.le_of_ble_eq_true rfl) (Nat.le_of_ble_eq_true rfl) (Nat.le_of_ble_eq_true rfl) (fun rr M1 hr hle1 => ?_)
      rcases hr with ⟨ha, rfl, hM1⟩ | ⟨ha, rfl, γ1, hR, hX⟩
      · obtain rfl := hM1.symm
        rw [← hxn]
        refine xw_istore (L2 := [(5, .int (-1)), (0, .ref (aT A)), (1, .ref (nad Γ i)), (2, .int (nI c)), (3, .long x.2)]) dX9_makeArray_41 (by decide) rfl ?_
        refine xw_iload dX9_makeArray_43 rfl ?_
        refine xw_iconst (v := (-1)) dX9_makeArray_45 (by decide) ?_
        refine xw_icmp_ne (tgt := 57) dX9_makeArray_46 (by decide) (fun zz => absurd rfl zz) (fun _ => ?_)
        refine xw_aload_n dX9_makeArray_49 rfl rfl ?_
        refine xw_iconst (v := 2) dX9_makeArray_50 (by decide) ?_
        refine xw_put (ci := 10) (k := 9) tyX9 dX9_makeArray_51 hH rfl inX9 tyX9_ok nmX9 (by decide) tw_189 (Or.inl rfl) rfl rfl rfl rfl (Nat.le_of_ble_eq_true rfl) ?_
        dsimp only [List.set]
        refine xw_goto (tgt := 74) dX9_makeArray_54 (by decide) ?_
        rw [show made σ i c x = uTr σ 2 by unfold made; rw [if_neg hnb, if_pos ha]]
        exact xw_vret rfl dX9_makeArray_74 ⟨rfl, γ, (h.tr (by decide)).mono (by omega), xe_hd⟩
      · rw [← hxn]
        refine xw_wf fun hw1 => ?_
        refine xw_istore (L2 := [(5, .int (nI (sA σ))), (0, .ref (aT A)), (1, .ref (nad Γ i)), (2, .int (nI c)), (3, .long x.2)]) dX9_makeArray_41 (by decide) rfl ?_
        refine xw_iload dX9_makeArray_43 rfl ?_
        refine xw_iconst (v := (-1)) dX9_makeArray_45 (by decide) ?_
        refine xw_icmp_ne (tgt := 57) dX9_makeArray_46 (by decide) (fun _ => ?_) (fun zz => absurd zz (nI_m1 (show sA σ < 2 ^ 31 by omega)))
        refine xw_aload_n dX9_makeArray_57 rfl rfl ?_
        refine xw_aload_n dX9_makeArray_58 rfl rfl ?_
        refine xw_new (ci := 9) (fs := [.int 0, .long 0]) tyX8 dX9_makeArray_59 rfl inX8 tyX8_ok (by decide) tw_73 tw_74 tw_40 (fun j hj => by rcases (show j = 0 ∨ j = 1 by omega) with rfl | rfl <;> rfl) ?_
        refine xw_dup dX9_makeArray_62 rfl ?_
        refine xw_iconst (v := 2) dX9_makeArray_63 (by decide) ?_
        refine xw_iload dX9_makeArray_64 rfl ?_
        refine xw_i2l dX9_makeArray_66 ?_
        refine xw_pc (pc2 := 67) rfl ?_
        rw [nI_l (show sA σ < 2 ^ 31 by omega)]
        have hR2 := hR.nval hw1 (v := (2, lN (sA σ)))
        have hX2 := hX.tr (xe_nv (A := A) (v := (2, lN (sA σ))) hw1)
        have hv2 : So (nv M1 (2, lN (sA σ))) 9 (Sz M1) = some [.int 2, .long (lN (sA σ))] := nv_at
        clear hR hX
        generalize hMM : M1 = M2 at hR2 hX2 hv2 hw1 ⊢
        refine xw_callI (q2 := mX8_init) (n2 := 2) (Bs := [.int 2, .long (lN (sA σ))]) (rest := [.ref (Sz M2), .ref (nad Γ i), .ref (aT A)]) (ct_Value (a := Sz M2) nv_0) rfl dX9_makeArray_67 rfl rfl tw_75 tw_76 tw_40 tw_77 (by decide +kernel) rfl (Nat.le_of_ble_eq_true rfl) (Nat.le_of_ble_eq_true rfl) (Nat.le_of_ble_eq_true rfl) (fun rr M1 hr hle1 => ?_)
        obtain ⟨rfl, hM1⟩ := hr
        rw [oput_oput] at hM1
        obtain rfl : M1 = nv M2 (2, lN (sA σ)) := hM1
        refine xw_iload_n dX9_makeArray_70 rfl rfl ?_
        have q1 := ct_give (G := G) (i := i) (c := c) (v := (2, lN (sA σ))) hR2 (by omega) hi hc hv2 (Or.inr (Or.inr ⟨rfl, sA σ, Nat.lt_succ_self _, rfl⟩))
        refine xw_callV (q2 := mX9_give) (n2 := 3) (ci := 10) (Bs := [.ref (nad Γ i), .ref (Sz M2), .int (nI c)]) (rest := []) (q1) dX9_makeArray_71 rfl (o_at hR2.1) rfl rfl tw_627 tw_629 tw_8 tw_39 tw_630 (by decide +kernel) rfl (Nat.le_of_ble_eq_true rfl) (Nat.le_of_ble_eq_true rfl) (Nat.le_of_ble_eq_true rfl) (fun rr M1 hr hle1 => ?_)
        obtain ⟨rfl, γ2, hR3, hcd3, hX3⟩ := hr
        rw [show made σ i c x = give (mkA σ n) i c (2, lN (sA σ)) by unfold made; rw [if_neg hnb, if_neg (by omega), hcl]]
        exact xw_vret rfl dX9_makeArray_74 ⟨rfl, γ2, hR3.mono (by omega), hX2.tr hX3⟩
    · have h2 : 8 < x.2 := Int64.not_le.mp (fun z => c2 ((lg_cmp_le _ _).mpr z))
      exact xw_pc rfl (bad (Or.inr h2))
end ARR
