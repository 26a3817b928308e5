/-! THE CLASS: token -/
abbrev tokC (σ : hs_S) (k p : Int32) : Prop := (¬ k < 0 ∧ k < nI (sN σ).length) ∧ (¬ p < 0 ∧ ¬ nI (pts σ k.toNatClampNeg) ≤ p) ∧ sTr σ = 0
def tokS (σ : hs_S) (k p : Int32) (v : Int64) : hs_S := if tokC σ k p then come (uB σ 1) k.toNatClampNeg p.toNatClampNeg 0 (0, v) else σ
section TOKEN
variable {G : hx_G} {M M1 : hx_S} {A : hA} {Γ : hG} {σ : hs_S} {γ : hf_S} {b i c d : Nat} {z : V2} {t : Nat → Option V2}
theorem GS.beg (h : GS σ) {n : Nat} (hn : n ≤ 1) : GS (uB σ n) := by
  obtain ⟨k1, k2, k3, k4, k5, k6, k7, k8, ⟨q1, q2, q3, q4, q5, q6⟩, k10⟩ := h
  exact ⟨k1, k2, k3, k4, k5, k6, k7, k8, ⟨q1, q2, q3, q4, q5, hn⟩, k10⟩
theorem ct_token (h : Rep M A Γ σ γ b) (hb : b + 300 ≤ 14400000) {k p : Int32} {v : Int64} : CT G 9 205 mX9_token [.ref (aT A), .int k, .int p, .long v] M (fun r M1 => r = some (.int (if tokC σ k p then 1 else 0)) ∧ ∃ γ1, Rep M1 A Γ (tokS σ k p v) γ1 (b + 300) ∧ XE A M M1) := by
  have no : ¬ tokC σ k p → (some (Value.int 0) = some (Value.int (if tokC σ k p then 1 else 0)) ∧ ∃ γ1, Rep M A Γ (tokS σ k p v) γ1 (b + 300) ∧ XE A M M) := fun hn => ⟨by rw [if_neg hn], γ, by unfold tokS; rw [if_neg hn]; exact h.mono (by omega), XE.rf _ _⟩
  have h40 := h.2.2.1
  have hH := h.hdr
  refine ct_go (by decide +kernel) (Nat.le_of_ble_eq_true rfl) (L := [(0, .ref (aT A)), (1, .int k), (2, .int p), (3, .long v)]) rfl ?_
  refine xw_aload_n dX9_token_0 rfl rfl ?_
  refine xw_iload_n dX9_token_1 rfl rfl ?_
  refine xw_callV (q2 := mX9_nodeAt) (n2 := 1) (ci := 10) (Bs := [.int k]) (rest := []) (ct_nodeAt h (by omega)) dX9_token_2 rfl (o_at h.1) rfl rfl tw_224 tw_226 tw_0 tw_39 tw_227 (by decide +kernel) rfl (Nat.le_of_ble_eq_true rfl) (Nat.le_of_ble_eq_true rfl) (Nat.le_of_ble_eq_true rfl) (fun rr M1 hr hle1 => ?_)
  obtain ⟨hM1, hq⟩ := hr
  obtain rfl := hM1.symm
  rcases hq with ⟨rfl, hn⟩ | ⟨j, hj, hkj, rfl⟩
  · skip
    refine xw_astoreN (L2 := [(5, .null), (0, .ref (aT A)), (1, .int k), (2, .int p), (3, .long v)]) dX9_token_5 (by decide) rfl ?_
    refine xw_aloadN dX9_token_7 rfl ?_
    refine xw_ifnullN (tgt := 28) dX9_token_9 (by decide) ?_
    refine xw_iconst (v := 0) dX9_token_28 (by decide) ?_
    exact xw_zret rfl (by rfl) dX9_token_29 (no (fun z => hn z.1))
  · have hkc : k.toNatClampNeg = j := by rw [hkj, nI_clamp (by omega)]
    have hkok : ¬ k < 0 ∧ k < nI (sN σ).length := by rw [hkj]; exact ⟨nI_pos (by omega), nI_lt hj (by omega)⟩
    have hnode := h.2.1.node hj
    have hp3 := pts_b σ j
    refine xw_astore (L2 := [(5, .ref (nad Γ j)), (0, .ref (aT A)), (1, .int k), (2, .int p), (3, .long v)]) dX9_token_5 (by decide) rfl ?_
    refine xw_aload dX9_token_7 rfl ?_
    refine xw_ifnull dX9_token_9 ?_
    refine xw_aload dX9_token_12 rfl ?_
    refine xw_iload_n dX9_token_14 rfl rfl ?_
    refine xw_callV (q2 := mX6_hasPort) (n2 := 1) (ci := 7) (Bs := [.int p]) (rest := []) (ct_hasPort hnode) dX9_token_15 rfl (o_at hnode) rfl rfl tw_251 tw_252 tw_253 tw_53 tw_254 (by decide +kernel) rfl (Nat.le_of_ble_eq_true rfl) (Nat.le_of_ble_eq_true rfl) (Nat.le_of_ble_eq_true rfl) (fun rr M1 hr hle1 => ?_)
    obtain ⟨rfl, hM1⟩ := hr
    obtain rfl := hM1.symm
    by_cases hp : ¬ p < 0 ∧ ¬ nI (pts σ j) ≤ p
    · rw [if_pos hp]
      refine xw_if_eq (tgt := 28) dX9_token_18 (by decide) (fun zz => absurd zz (by decide)) (fun _ => ?_)
      refine xw_aload_n dX9_token_21 rfl rfl ?_
      refine xw_get (ci := 10) (k := 9) (v := .int (nI (sTr σ))) dX9_token_22 hH rfl inX9 (by decide) tw_189 (Or.inl rfl) rfl ?_
      refine xw_if_eq (tgt := 30) dX9_token_25 (by decide) (fun d1 => ?_) (fun d1 => ?_)
      · have t0 : sTr σ = 0 := (nI_eq (by have := h.2.2.2.2.2.2.2.2.2.2.1.2.1; omega) (by decide)).mp (show nI (sTr σ) = nI 0 from d1)
        have hC : tokC σ k p := ⟨hkok, by rw [hkc]; exact hp, t0⟩
        obtain ⟨pp, hpp, hpe, -⟩ := pk_mu hp.1 hp.2 (show pts σ j < 2 ^ 31 by omega)
        have hpc : p.toNatClampNeg = pp := by rw [hpe, nI_clamp (by omega)]
        refine xw_aload_n dX9_token_30 rfl rfl ?_
        refine xw_iconst (v := 1) dX9_token_31 (by decide) ?_
        refine xw_pc (pc2 := 32) rfl ?_
        refine xw_put (ci := 10) (k := 12) tyX9 dX9_token_32 hH rfl inX9 tyX9_ok nmX9 (by decide) tw_192 (Or.inl rfl) rfl rfl rfl rfl (Nat.le_of_ble_eq_true rfl) ?_
        dsimp only [List.set]
        have hR2 : Rep (oput M 10 (aT A) (some [.ref (aV A), .ref (aN A), .ref (aF A), .ref (aR A), .ref (aX A), .ref (aC A), .ref (aQ A), .int (nI (sNt σ)), .int (nI (sK σ).length), .int (nI (sTr σ)), .int (nI (sW σ)), .int (nI (sAl σ)), .int (1)])) A Γ (uB σ 1) γ b := ⟨by rw [So_oput, if_pos ⟨rfl, rfl⟩]; rfl, h.2.1.hd.cg ⟨rfl, rfl, rfl, rfl, rfl, rfl⟩ rfl rfl rfl, h.2.2.beg (Nat.le_refl _)⟩
        have hX2 : XE A M (oput M 10 (aT A) (some [.ref (aV A), .ref (aN A), .ref (aF A), .ref (aR A), .ref (aX A), .ref (aC A), .ref (aQ A), .int (nI (sNt σ)), .int (nI (sK σ).length), .int (nI (sTr σ)), .int (nI (sW σ)), .int (nI (sAl σ)), .int (1)])) := xe_hd
        generalize oput M 10 (aT A) (some [.ref (aV A), .ref (aN A), .ref (aF A), .ref (aR A), .ref (aX A), .ref (aC A), .ref (aQ A), .int (nI (sNt σ)), .int (nI (sK σ).length), .int (nI (sTr σ)), .int (nI (sW σ)), .int (nI (sAl σ)), .int (1)]) = M2 at hR2 hX2 ⊢
        refine xw_wf fun hw2 => ?_
        refine xw_aload_n dX9_token_35 rfl rfl ?_
        refine xw_aload dX9_token_36 rfl ?_
        refine xw_iload_n dX9_token_38 rfl rfl ?_
        refine xw_new (ci := 9) (fs := [.int 0, .long 0]) tyX8 dX9_token_39 rfl inX8 tyX8_ok (by decide) tw_73 tw_74 tw_40 (fun j hj => by rcases (show j = 0 ∨ j = 1 by omega) with rfl | rfl <;> rfl) ?_
        refine xw_dup dX9_token_42 rfl ?_
        refine xw_iconst (v := 0) dX9_token_43 (by decide) ?_
        refine xw_lload_n dX9_token_44 rfl rfl ?_
        refine xw_callI (q2 := mX8_init) (n2 := 2) (Bs := [.int 0, .long v]) (rest := [.ref (Sz M2), .int p, .ref (nad Γ j), .ref (aT A)]) (ct_Value (a := Sz M2) nv_0) rfl dX9_token_45 rfl rfl tw_75 tw_76 tw_40 tw_77 (by decide +kernel) rfl (Nat.le_of_ble_eq_true rfl) (Nat.le_of_ble_eq_true rfl) (Nat.le_of_ble_eq_true rfl) (fun rr M1 hr hle1 => ?_)
        obtain ⟨rfl, hM1⟩ := hr
        rw [oput_oput] at hM1
        obtain rfl : M1 = nv M2 (0, v) := hM1
        refine xw_iconst (v := 0) dX9_token_48 (by decide) ?_
        have hR3 := hR2.nval hw2 (v := (0, v))
        have q1 := ct_come (G := G) (i := j) (p := pp) (c := 0) hR3 (by omega) hj hpp (by have := h.2.2.2.2.1.1; exact this) nv_at (Or.inl rfl)
        rw [hpe]
        refine xw_callV (q2 := mX9_come) (n2 := 4) (ci := 10) (Bs := [.ref (nad Γ j), .int (nI pp), .ref (Sz M2), .int (nI 0)]) (rest := []) (q1) dX9_token_49 rfl (o_at hR3.1) rfl rfl tw_345 tw_347 tw_4 tw_39 tw_348 (by decide +kernel) rfl (Nat.le_of_ble_eq_true rfl) (Nat.le_of_ble_eq_true rfl) (Nat.le_of_ble_eq_true rfl) (fun rr M1 hr hle1 => ?_)
        obtain ⟨rfl, γ1, hR4, -, hX4⟩ := hr
        rw [← hpe]
        refine xw_iconst (v := 1) dX9_token_52 (by decide) ?_
        refine xw_zret rfl (by rfl) dX9_token_53 ⟨by rw [if_pos hC], γ1, ?_, hX2.tr ((xe_nv hw2).tr hX4)⟩
        unfold tokS
        rw [if_pos hC, hkc, hpc]
        exact hR4.mono (by omega)
      · have t0 : ¬ sTr σ = 0 := fun zz => d1 (by rw [zz]; rfl)
        refine xw_iconst (v := 0) dX9_token_28 (by decide) ?_
        exact xw_zret rfl (by rfl) dX9_token_29 (no (fun z => t0 z.2.2))
    · rw [if_neg hp]
      refine xw_if_eq (tgt := 28) dX9_token_18 (by decide) (fun _ => ?_) (fun zz => absurd (by decide) zz)
      refine xw_iconst (v := 0) dX9_token_28 (by decide) ?_
      exact xw_zret rfl (by rfl) dX9_token_29 (no (fun z => hp (by have := z.2.1; rw [hkc] at this; exact this)))
end TOKEN
