/-! THE CLASS: clear -/
/-- the cells below j are forgotten -/
def fk (σ : hs_S) (j : Nat) : hs_S := uCe (uK σ ((sK σ).filter (fun x => decide (j ≤ x.2.2)))) (fun c => if c < j then none else sCe σ c)
/-- the tokens at nodes below j are forgotten -/
def tk (σ : hs_S) (j : Nat) : hs_S := uT σ (fun i c => if i < j then no3 else sT σ i c)
def clr (σ : hs_S) (L : List ND) : hs_S := (L, 0, [((-1, 0, 0) : T3)], 0, sLe σ, (fun _ => none), (fun _ _ => no3), 0, [], [], [], 0, 0, sAl σ)
section CLEAR
variable {G : hx_G} {M M1 : hx_S} {A : hA} {Γ : hG} {σ σ' : hs_S} {γ : hf_S} {b b' : Nat}
theorem RepB.cenone {d : Nat} (h : RepB M A Γ σ γ b) (hd : gcd γ d = none) : RepB M A Γ (cnul σ d) γ b := by
  obtain ⟨k1, k2, k3, k4, ⟨c1, c2, c3, c6, c10, c11⟩, k6, k7⟩ := h
  refine ⟨k1.cg rfl rfl, k2, k3, k4, ⟨c1, c2, c3, c6, fun d' a' hd' => ?_, c11⟩, k6.cg rfl rfl, k7⟩
  obtain ⟨m1, m2, u, m3, m4⟩ := c10 d' a' hd'
  refine ⟨m1, m2, u, m3, ?_⟩
  show OV _ _ _ (if d' = d then none else sCe σ d')
  rw [if_neg (fun z => by rw [z, hd] at hd'; cases hd')]
  exact m4
theorem RepB.noA (h : RepB M A Γ σ γ b) : RepB (oput M 3 (aC A) (some [.ref (aV A), .ref (aW A), .ref (aL A), .int 0])) A Γ (uA σ 0) γ b := by
  have e : Ext M (oput M 3 (aC A) (some [.ref (aV A), .ref (aW A), .ref (aL A), .int 0])) (fun c x => c = 3 ∧ x = aC A) no1 no1 no1 := ext_oput
  obtain ⟨k1, k2, k3, k4, ⟨c1, ⟨c2, c3⟩, ⟨fl, c4, c5⟩, c6, c10, c11⟩, k6, k7⟩ := h
  have n2 : ∀ c, c ≠ 3 → ∀ x, ¬ (c = 3 ∧ x = aC A) := fun c hc x z => hc z.1
  refine ⟨(k1.ext e (n2 7 (by decide)) (n2 1 (by decide)) (fun _ => False.elim)).cg rfl rfl, k2.ext e (n2 9 (by decide)) (n2 5 (by decide)) (n2 6 (by decide)) (fun _ => False.elim) (fun _ => False.elim), k3, k4.ext e (n2 4 (by decide)) ⟨id, id, id⟩, ⟨by rw [So_oput, if_pos ⟨rfl, rfl⟩]; rfl, ⟨c2, c3⟩, ⟨fl, c4, fun k hk => absurd hk (Nat.not_lt_zero _)⟩, c6, fun d' a' hd' => ?_, fun k i hk => absurd hk (Nat.not_lt_zero _)⟩, (k6.ext e (n2 9 (by decide)) (n2 8 (by decide)) (fun _ => False.elim)).cg rfl rfl, k7.same rfl rfl (fun _ => rfl)⟩
  obtain ⟨m1, m2, u, m3, m4⟩ := c10 d' a' hd'
  exact ⟨m1, m2, u, e.so m3 (n2 2 (by decide) _), m4.ext e (n2 9 (by decide))⟩
theorem kf_ne (l : List N3) {c j : Nat} (h : c ≠ j) : (l.filter (fun x => decide (x.2.2 ≠ j))).filter (fun x => x.2.2 == c) = l.filter (fun x => x.2.2 == c) := by
  rw [List.filter_filter]
  apply List.filter_congr
  intro x _
  by_cases z : x.2.2 = c
  · simp [z, h]
  · simp [z]
theorem kf_eq (l : List N3) (j : Nat) : (l.filter (fun x => decide (x.2.2 ≠ j))).filter (fun x => x.2.2 == j) = [] := by
  rw [List.filter_filter]
  apply List.filter_eq_nil_iff.mpr
  intro x _
  simp
theorem fk_K (σ : hs_S) (j : Nat) : (sK (fk σ j)).filter (fun x => decide (x.2.2 ≠ j)) = sK (fk σ (j + 1)) := by
  show ((sK σ).filter (fun x => decide (j ≤ x.2.2))).filter (fun x => decide (x.2.2 ≠ j)) = (sK σ).filter (fun x => decide (j + 1 ≤ x.2.2))
  rw [List.filter_filter]
  apply List.filter_congr
  intro x _
  rw [← Bool.decide_and, decide_eq_decide]
  omega
theorem fk_C (σ : hs_S) (j : Nat) : sCe (cnul (fk σ j) j) = sCe (fk σ (j + 1)) := by
  funext c
  show (if c = j then none else if c < j then none else sCe σ c) = if c < j + 1 then none else sCe σ c
  by_cases h1 : c = j
  · rw [if_pos h1, if_pos (by omega)]
  · rw [if_neg h1]
    by_cases h2 : c < j
    · rw [if_pos h2, if_pos (by omega)]
    · rw [if_neg h2, if_neg (by omega)]
theorem fk_s (σ : hs_S) (j : Nat) : sN (fk σ j) = sN σ ∧ sC (fk σ j) = sC σ ∧ sA (fk σ j) = sA σ ∧ sLe (fk σ j) = sLe σ ∧ sRs (fk σ j) = sRs σ ∧ sT (fk σ j) = sT σ ∧ sR (fk σ j) = sR σ := by
  unfold fk
  exact ⟨by rw [sN_uCe, sN_uK], by rw [sC_uCe, sC_uK], by rw [sA_uCe, sA_uK], by rw [sLe_uCe, sLe_uK], by rw [sRs_uCe, sRs_uK], by rw [sT_uCe, sT_uK], by rw [sR_uCe, sR_uK]⟩
theorem cnul_s (σ : hs_S) (j : Nat) : sN (cnul σ j) = sN σ ∧ sC (cnul σ j) = sC σ ∧ sA (cnul σ j) = sA σ ∧ sLe (cnul σ j) = sLe σ ∧ sRs (cnul σ j) = sRs σ ∧ sT (cnul σ j) = sT σ ∧ sR (cnul σ j) = sR σ := by
  unfold cnul
  exact ⟨by rw [sN_uCe], by rw [sC_uCe], by rw [sA_uCe], by rw [sLe_uCe], by rw [sRs_uCe], by rw [sT_uCe], by rw [sR_uCe]⟩
theorem uK_s (σ : hs_S) (l : List N3) : sN (uK σ l) = sN σ ∧ sC (uK σ l) = sC σ ∧ sA (uK σ l) = sA σ ∧ sLe (uK σ l) = sLe σ ∧ sRs (uK σ l) = sRs σ ∧ sT (uK σ l) = sT σ ∧ sR (uK σ l) = sR σ := ⟨sN_uK σ l, sC_uK σ l, sA_uK σ l, sLe_uK σ l, sRs_uK σ l, sT_uK σ l, sR_uK σ l⟩
theorem fk_6 (σ : hs_S) (j : Nat) : same6 (cnul (fk σ j) j) (fk σ (j + 1)) := ⟨(fk_s σ (j + 1)).1.trans ((cnul_s (fk σ j) j).1.trans (fk_s σ j).1).symm, (fk_s σ (j + 1)).2.1.trans ((cnul_s (fk σ j) j).2.1.trans (fk_s σ j).2.1).symm, (fk_s σ (j + 1)).2.2.1.trans ((cnul_s (fk σ j) j).2.2.1.trans (fk_s σ j).2.2.1).symm, (fk_s σ (j + 1)).2.2.2.1.trans ((cnul_s (fk σ j) j).2.2.2.1.trans (fk_s σ j).2.2.2.1).symm, (fk_C σ j).symm, (fk_s σ (j + 1)).2.2.2.2.1.trans ((cnul_s (fk σ j) j).2.2.2.2.1.trans (fk_s σ j).2.2.2.2.1).symm⟩
theorem fk_6k (σ : hs_S) (j : Nat) (l : List N3) : same6 (uK (cnul (fk σ j) j) l) (fk σ (j + 1)) := ⟨(fk_s σ (j + 1)).1.trans ((uK_s (cnul (fk σ j) j) l).1.trans ((cnul_s (fk σ j) j).1.trans (fk_s σ j).1)).symm, (fk_s σ (j + 1)).2.1.trans ((uK_s (cnul (fk σ j) j) l).2.1.trans ((cnul_s (fk σ j) j).2.1.trans (fk_s σ j).2.1)).symm, (fk_s σ (j + 1)).2.2.1.trans ((uK_s (cnul (fk σ j) j) l).2.2.1.trans ((cnul_s (fk σ j) j).2.2.1.trans (fk_s σ j).2.2.1)).symm, (fk_s σ (j + 1)).2.2.2.1.trans ((uK_s (cnul (fk σ j) j) l).2.2.2.1.trans ((cnul_s (fk σ j) j).2.2.2.1.trans (fk_s σ j).2.2.2.1)).symm, (fk_C σ j).symm.trans (sCe_uK _ _).symm, (fk_s σ (j + 1)).2.2.2.2.1.trans ((uK_s (cnul (fk σ j) j) l).2.2.2.2.1.trans ((cnul_s (fk σ j) j).2.2.2.2.1.trans (fk_s σ j).2.2.2.2.1)).symm⟩
theorem fk_2 (σ : hs_S) (j : Nat) : sT (fk σ (j + 1)) = sT (cnul (fk σ j) j) ∧ sR (fk σ (j + 1)) = sR (cnul (fk σ j) j) := ⟨(fk_s σ (j + 1)).2.2.2.2.2.1.trans ((cnul_s (fk σ j) j).2.2.2.2.2.1.trans (fk_s σ j).2.2.2.2.2.1).symm, (fk_s σ (j + 1)).2.2.2.2.2.2.trans ((cnul_s (fk σ j) j).2.2.2.2.2.2.trans (fk_s σ j).2.2.2.2.2.2).symm⟩
theorem fk_2k (σ : hs_S) (j : Nat) (l : List N3) : sT (fk σ (j + 1)) = sT (uK (cnul (fk σ j) j) l) ∧ sR (fk σ (j + 1)) = sR (uK (cnul (fk σ j) j) l) := ⟨(fk_s σ (j + 1)).2.2.2.2.2.1.trans ((uK_s (cnul (fk σ j) j) l).2.2.2.2.2.1.trans ((cnul_s (fk σ j) j).2.2.2.2.2.1.trans (fk_s σ j).2.2.2.2.2.1)).symm, (fk_s σ (j + 1)).2.2.2.2.2.2.trans ((uK_s (cnul (fk σ j) j) l).2.2.2.2.2.2.trans ((cnul_s (fk σ j) j).2.2.2.2.2.2.trans (fk_s σ j).2.2.2.2.2.2)).symm⟩
theorem cnul_K (σ : hs_S) (d : Nat) : sK (cnul σ d) = sK σ := by unfold cnul; rw [sK_uCe]
theorem ct_forgetAll (h : RepB M A Γ σ γ b) (h40 : sA σ ≤ 40) (hb : b ≤ 14400000) : CT G 1 23 mX2_forgetAll [.ref (aC A)] M (fun r M1 => r = none ∧ ∃ γ1, RepB M1 A Γ (uA (fk σ (8 * sA σ)) 0) γ1 b ∧ (∀ r, r.1 ≠ 7 → gG γ1 r = gG γ r) ∧ gcd γ1 = gcd γ ∧ Ext M M1 (fun c _ => c = 2 ∨ c = 3) (fun _ => True) no1 no1) := by
  have e8 : nI (sA σ) * 8 = nI (8 * sA σ) := by rw [show (8 : Int32) = nI 8 from by decide +kernel, pk_mul, Nat.mul_comm]
  have loop : ∀ (k j : Nat) (M' : hx_S) (γ' : hf_S), j + k = 8 * sA σ → RepB M' A Γ (fk σ j) γ' b → (∀ r, r.1 ≠ 7 → gG γ' r = gG γ r) → gcd γ' = gcd γ → Ext M M' (fun c _ => c = 2 ∨ c = 3) (fun _ => True) no1 no1 → XW G 1 23 mX2_forgetAll [.ref (aC A)] M (fun r M1 => r = none ∧ ∃ γ1, RepB M1 A Γ (uA (fk σ (8 * sA σ)) 0) γ1 b ∧ (∀ r, r.1 ≠ 7 → gG γ1 r = gG γ r) ∧ gcd γ1 = gcd γ ∧ Ext M M1 (fun c _ => c = 2 ∨ c = 3) (fun _ => True) no1 no1) M' 2 [(1, .int (nI j)), (0, .ref (aC A))] [] := by
    intro k
    induction k with
    | zero =>
      intro j M' γ' hjk hR hG hcd hX
      obtain ⟨c1, -⟩ := hR.2.2.2.2.1
      have c1' : So M' 3 (aC A) = some [.ref (aV A), .ref (aW A), .ref (aL A), .int (nI (sA σ))] := by rw [← (fk_s σ j).2.2.1]; exact c1
      refine xw_iload_n dX2_forgetAll_2 rfl rfl ?_
      refine xw_aload_n dX2_forgetAll_3 rfl rfl ?_
      refine xw_get (ci := 3) (k := 3) (v := .int (nI (sA σ))) dX2_forgetAll_4 c1' rfl inX2 (by decide) tw_169 (Or.inl rfl) rfl ?_
      refine xw_bipush (v := 8) dX2_forgetAll_7 (by decide) ?_
      refine xw_imul dX2_forgetAll_9 ?_
      rw [e8]
      refine xw_icmp_ge (tgt := 62) dX2_forgetAll_10 (by decide) (fun _ => ?_) (fun zz => absurd (nI_le (show 8 * sA σ ≤ j by omega) (by omega)) zz)
      refine xw_aload_n dX2_forgetAll_62 rfl rfl ?_
      refine xw_iconst (v := 0) dX2_forgetAll_63 (by decide) ?_
      refine xw_put (ci := 3) (k := 3) tyX2 dX2_forgetAll_64 c1' rfl inX2 tyX2_ok nmX2 (by decide) tw_169 (Or.inl rfl) rfl rfl rfl rfl (Nat.le_of_ble_eq_true rfl) ?_
      dsimp only [List.set]
      obtain rfl : j = 8 * sA σ := by omega
      exact xw_vret rfl dX2_forgetAll_67 ⟨rfl, γ', hR.noA, hG, hcd, hX.tr (ext_oput.mono (fun _ _ z => Or.inr z.1) (fun _ => False.elim) (fun _ => id) (fun _ => id))⟩
    | succ k ih =>
      intro j M' γ' hjk hR hG hcd hX
      obtain ⟨c1, ⟨c2, c3⟩, -, -, c10, -⟩ := hR.2.2.2.2.1
      have c1' : So M' 3 (aC A) = some [.ref (aV A), .ref (aW A), .ref (aL A), .int (nI (sA σ))] := by rw [← (fk_s σ j).2.2.1]; exact c1
      have hin : vp_in (nI j) 320 := vp_in_nI (by omega) (by decide)
      refine xw_iload_n dX2_forgetAll_2 rfl rfl ?_
      refine xw_aload_n dX2_forgetAll_3 rfl rfl ?_
      refine xw_get (ci := 3) (k := 3) (v := .int (nI (sA σ))) dX2_forgetAll_4 c1' rfl inX2 (by decide) tw_169 (Or.inl rfl) rfl ?_
      refine xw_bipush (v := 8) dX2_forgetAll_7 (by decide) ?_
      refine xw_imul dX2_forgetAll_9 ?_
      rw [e8]
      refine xw_icmp_ge (tgt := 62) dX2_forgetAll_10 (by decide) (fun zz => absurd zz (nI_ge (show j < 8 * sA σ by omega) (by omega))) (fun _ => ?_)
      refine xw_iload_n dX2_forgetAll_13 rfl rfl ?_
      refine xw_aload_n dX2_forgetAll_14 rfl rfl ?_
      refine xw_get (ci := 3) (k := 1) (v := .ref (aW A)) dX2_forgetAll_15 c1' rfl inX2 (by decide) tw_167 (Or.inl rfl) rfl ?_
      refine xw_pc (pc2 := 18) rfl ?_
      refine xw_rlen dX2_forgetAll_18 c2 ?_
      refine xw_icmp_ge (tgt := 62) dX2_forgetAll_19 (by decide) (fun zz => absurd zz (show ¬ nI 320 ≤ nI j from nI_ge (by omega) (by decide))) (fun _ => ?_)
      refine xw_aload_n dX2_forgetAll_22 rfl rfl ?_
      refine xw_get (ci := 3) (k := 1) (v := .ref (aW A)) dX2_forgetAll_23 c1' rfl inX2 (by decide) tw_167 (Or.inl rfl) rfl ?_
      refine xw_iload_n dX2_forgetAll_26 rfl rfl ?_
      cases hc : gcd γ' j with
      | none =>
        refine xw_aald (v := .null) dX2_forgetAll_27 c2 hin (by rw [nI_clamp (by omega), hc]; rfl) ?_
        refine xw_ifnullN (tgt := 56) dX2_forgetAll_28 (by decide) ?_
        refine xw_iinc (v := (nI j) + 1) (L2 := [(1, .int ((nI j) + 1)), (0, .ref (aC A))]) dX2_forgetAll_56 rfl rfl (by decide) rfl ?_
        refine xw_goto (tgt := 2) dX2_forgetAll_59 (by decide) ?_
        rw [nI_1]
        have hkf := hR.2.2.1.2.2.2.2.2.2 j hc
        have hK : sK (fk σ (j + 1)) = sK (fk σ j) := by
          rw [← fk_K]
          apply List.filter_eq_self.mpr
          intro x hx
          have hkf' : (sK (fk σ j)).filter (fun x => x.2.2 == j) = [] := hkf
          have := List.filter_eq_nil_iff.mp hkf' x hx
          simpa using this
        refine ih (j + 1) M' γ' (by omega) ((hR.cenone hc).cg (σ' := fk σ (j + 1)) (fk_6 σ j) (fk_2 σ j).1 (fk_2 σ j).2 (hK.trans (cnul_K _ _).symm)) hG hcd hX
      | some a =>
        obtain ⟨m1, m2, u, m3, m4⟩ := c10 j a hc
        refine xw_aald (v := .ref a) dX2_forgetAll_27 c2 hin (by rw [nI_clamp (by omega), hc]; rfl) ?_
        refine xw_ifnull dX2_forgetAll_28 ?_
        refine xw_aload_n dX2_forgetAll_31 rfl rfl ?_
        refine xw_get (ci := 3) (k := 1) (v := .ref (aW A)) dX2_forgetAll_32 c1' rfl inX2 (by decide) tw_167 (Or.inl rfl) rfl ?_
        refine xw_iload_n dX2_forgetAll_35 rfl rfl ?_
        refine xw_aald (v := .ref a) dX2_forgetAll_36 c2 hin (by rw [nI_clamp (by omega), hc]; rfl) ?_
        refine xw_aload_n dX2_forgetAll_37 rfl rfl ?_
        refine xw_get (ci := 3) (k := 0) (v := .ref (aV A)) dX2_forgetAll_38 c1' rfl inX2 (by decide) tw_166 (Or.inl rfl) rfl ?_
        refine xw_put (ci := 2) (k := 1) tyX1 dX2_forgetAll_41 m3 rfl inX1 tyX1_ok nmX1 (by decide) tw_700 (Or.inl rfl) rfl rfl rfl rfl (Nat.le_of_ble_eq_true rfl) ?_
        dsimp only [List.set]
        have hR2 := hR.unwr hc
        have hX2 : Ext M' (oput M' 2 a (some [.ref (gkl γ' j), .ref (aV A)])) (fun c _ => c = 2 ∨ c = 3) (fun _ => True) no1 no1 := ext_oput.mono (fun _ _ z => Or.inl z.1) (fun _ => False.elim) (fun _ => id) (fun _ => id)
        have hm3 : So (oput M' 2 a (some [.ref (gkl γ' j), .ref (aV A)])) 2 a = some [.ref (gkl γ' j), .ref (aV A)] := by rw [So_oput, if_pos ⟨rfl, rfl⟩]
        have hc3 : So (oput M' 2 a (some [.ref (gkl γ' j), .ref (aV A)])) 3 (aC A) = some [.ref (aV A), .ref (aW A), .ref (aL A), .int (nI (sA σ))] := by rw [So_oput, if_neg (fun z => absurd z.1 (by decide))]; exact c1'
        have hc2 : Sr (oput M' 2 a (some [.ref (gkl γ' j), .ref (aV A)])) 0 (aW A) = some (320, gcd γ') := c2
        generalize oput M' 2 a (some [.ref (gkl γ' j), .ref (aV A)]) = M2 at hR2 hX2 hm3 hc3 hc2 ⊢
        refine xw_aload_n dX2_forgetAll_44 rfl rfl ?_
        refine xw_get (ci := 3) (k := 1) (v := .ref (aW A)) dX2_forgetAll_45 hc3 rfl inX2 (by decide) tw_167 (Or.inl rfl) rfl ?_
        refine xw_iload_n dX2_forgetAll_48 rfl rfl ?_
        refine xw_pc (pc2 := 49) rfl ?_
        refine xw_aald (v := .ref a) dX2_forgetAll_49 hc2 hin (by rw [nI_clamp (by omega), hc]; rfl) ?_
        refine xw_get (ci := 2) (k := 0) (v := .ref (gkl γ' j)) dX2_forgetAll_50 hm3 rfl inX1 (by decide) tw_697 (Or.inl rfl) rfl ?_
        obtain ⟨⟨⟨cp, ee, mc⟩, hy⟩, hro⟩ := hR2.2.1.2.1 (7, j) (act_7 hc)
        rw [ad_7] at hy hro
        have hro2 := (hR2.2.1.2.1 (2, 0) act_2).2
        have hcap := hR2.2.2.2.2.2.2.cap hb hy
        simp only at hcap
        refine xw_wf fun hw2 => ?_
        refine xw_callV (q2 := mJx4a65c_clear_da8c8) (n2 := 0) (ci := 0) (Bs := []) (rest := []) (ct_lclear hy (by show cp ≤ 20000001; omega)) dX2_forgetAll_53 rfl (q_at hy) rfl rfl tw_431 tw_424 tw_425 tw_43 tw_426 (by decide +kernel) rfl (Nat.le_of_ble_eq_true rfl) (Nat.le_of_ble_eq_true rfl) (Nat.le_of_ble_eq_true rfl) (fun rr M1 hr hle1 => ?_)
        obtain ⟨rfl, hM1⟩ := hr
        have hR3 : RepB M1 A Γ (uK (cnul (fk σ j) j) ((sK (fk σ j)).filter (fun x => decide (x.2.2 ≠ j)))) (dl γ' (7, j)) b := by
          rw [hM1]
          refine hR2.dl (r0 := (7, j)) (act_7 hc) ext_qput ⟨_, by rw [ad_7, Sq_qput, if_pos rfl]⟩ (hR2.2.2.1.one (by rw [sN_uK]) (fun i hi => Or.inr ⟨fun z => absurd (show (6 : Nat) = 7 from congrArg Prod.fst z) (by decide), by rw [sT_uK]⟩) (Or.inr ⟨fun z => absurd (show (3 : Nat) = 7 from congrArg Prod.fst z) (by decide), by rw [sR_uK]⟩) (fun c => ?_)) ⟨sN_uK _ _, sC_uK _ _, sA_uK _ _, sLe_uK _ _, sCe_uK _ _, sRs_uK _ _⟩ ?_
          · by_cases hcj : c = j
            · refine Or.inl ⟨by rw [hcj], ?_⟩
              unfold kf
              rw [hcj, sK_uK]
              exact kf_eq _ j
            · refine Or.inr ⟨fun z => hcj (Prod.mk.inj z).2, ?_⟩
              unfold kf
              rw [sK_uK, cnul_K]
              exact kf_ne _ hcj
          · rw [if_neg ne27]
            refine (hR2.2.2.2.2.2.2.less hw2 hy (Nat.zero_le _) (fun z => ?_)).kk ?_
            · rw [z] at hro; rw [ad_2, hro] at hro2; exact ne27 hro2.symm
            · rw [sK_uK, cnul_K]
              exact Nat.add_le_add_left (Nat.mul_le_mul_left 1500 (List.length_filter_le _ _)) b
        have hX3 : Ext M' M1 (fun c _ => c = 2 ∨ c = 3) (fun _ => True) no1 no1 := hX2.tr (by rw [hM1]; exact ext_qput.mono (fun _ _ => False.elim) (fun _ _ => trivial) (fun _ => id) (fun _ => id))
        clear hM1
        refine xw_iinc (v := (nI j) + 1) (L2 := [(1, .int ((nI j) + 1)), (0, .ref (aC A))]) dX2_forgetAll_56 rfl rfl (by decide) rfl ?_
        refine xw_goto (tgt := 2) dX2_forgetAll_59 (by decide) ?_
        rw [nI_1]
        refine ih (j + 1) M1 (dl γ' (7, j)) (by omega) (hR3.cg (σ' := fk σ (j + 1)) (fk_6k σ j _) (fk_2k σ j _).1 (fk_2k σ j _).2 ((fk_K σ j).symm.trans (sK_uK _ _).symm)) (fun r hr => ?_) hcd (hX.tr hX3)
        rw [dl_G, if_neg (fun z => hr (by rw [z]))]
        exact hG r hr
  refine ct_go (by decide +kernel) (Nat.le_of_ble_eq_true rfl) (L := [(0, .ref (aC A))]) rfl ?_
  refine xw_iconst (v := 0) dX2_forgetAll_0 (by decide) ?_
  refine xw_istore_n (L2 := [(1, .int 0), (0, .ref (aC A))]) dX2_forgetAll_1 rfl (by decide) rfl ?_
  refine xw_pc rfl (loop (8 * sA σ) 0 M γ (by omega) (h.cg (σ' := fk σ 0) ⟨(fk_s σ 0).1, (fk_s σ 0).2.1, (fk_s σ 0).2.2.1, (fk_s σ 0).2.2.2.1, ?_, (fk_s σ 0).2.2.2.2.1⟩ (fk_s σ 0).2.2.2.2.2.1 (fk_s σ 0).2.2.2.2.2.2 ?_) (fun _ _ => rfl) rfl (Ext.rf _))
  · funext c
    show (if c < 0 then none else sCe σ c) = sCe σ c
    rw [if_neg (Nat.not_lt_zero _)]
  · show (sK σ).filter (fun x => decide (0 ≤ x.2.2)) = sK σ
    apply List.filter_eq_self.mpr
    intro x _
    simp
end CLEAR
