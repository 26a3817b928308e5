/-! THE CLASS: come -/
def XE (A : hA) (M M1 : hx_S) : Prop := Ext M M1 (fun c _ => c = 5 ∨ c = 2 ∨ c = 3 ∨ c = 4 ∨ c = 10) (fun _ => True) (fun _ => True) (fun q => q = aO A ∨ q = aS A ∨ q = aU A ∨ q = aL A)
theorem XE.rf (A : hA) (M : hx_S) : XE A M M := Ext.rf M
theorem XE.tr {A : hA} {M M1 M2 : hx_S} (h : XE A M M1) (k : XE A M1 M2) : XE A M M2 := Ext.tr h k
theorem XF.xe {A : hA} {M M1 : hx_S} (h : XF M M1) : XE A M M1 := Ext.mono h (fun _ _ z => Or.inl z) (fun _ => id) (fun _ => id) (fun _ => False.elim)
theorem XE.val {A : hA} {M M1 : hx_S} (h : XE A M M1) {w : Nat} {v : List Value} (k : So M 9 w = some v) : So M1 9 w = some v := Ext.so h k (by omega)
theorem XF.so {M M1 : hx_S} (h : XF M M1) {c w : Nat} {v : List Value} (k : So M c w = some v) (hc : c ≠ 5) : So M1 c w = some v := Ext.so h k hc
theorem xe_hd {A : hA} {M : hx_S} {a : Nat} {x : Option (List Value)} : XE A M (oput M 10 a x) := ext_oput.mono (fun _ _ z => Or.inr (Or.inr (Or.inr (Or.inr z.1)))) (fun _ => False.elim) (fun _ => False.elim) (fun _ => False.elim)
/-- what a method that answers nothing leaves behind -/
abbrev RQ (M : hx_S) (A : hA) (Γ : hG) (σ1 : hs_S) (γ : hf_S) (b1 : Nat) : Option Value → hx_S → Prop := fun r M1 => r = none ∧ ∃ γ1, Rep M1 A Γ σ1 γ1 b1 ∧ (gcd γ1 = gcd γ ∧ gkl γ1 = gkl γ) ∧ XE A M M1
section COME
variable {G : hx_G} {M M1 : hx_S} {A : hA} {Γ : hG} {σ σ' : hs_S} {γ : hf_S} {b b' : Nat}
theorem RepB.cg (h : RepB M A Γ σ γ b) (hs : same6 σ σ') (hT : sT σ' = sT σ) (hR : sR σ' = sR σ) (hK : sK σ' = sK σ) : RepB M A Γ σ' γ b := by
  obtain ⟨k1, k2, k3, k4, k5, k6, k7⟩ := h
  obtain ⟨s1, s2, s3, s4, s5, s6⟩ := hs
  refine ⟨k1.cg s1 rfl, by rw [s1]; exact k2, ?_, by rw [s2]; exact k4, k5.cg s3 s4 s5 rfl rfl rfl, k6.cg s6 rfl, by rw [hK]; exact k7⟩
  unfold PF kf at k3 ⊢
  rw [s1, hT, hR, hK]
  exact k3
theorem RepB.hd {a : Nat} {x : Option (List Value)} (h : RepB M A Γ σ γ b) : RepB (oput M 10 a x) A Γ σ γ b := h.ext0 ext_oput (fun _ _ z => Or.inl z.1) (h.2.2.2.2.2.2.same rfl rfl (fun _ => rfl))
theorem RepB.mono (h : RepB M A Γ σ γ b) (hb : b ≤ b') : RepB M A Γ σ γ b' := ⟨h.1, h.2.1, h.2.2.1, h.2.2.2.1, h.2.2.2.2.1, h.2.2.2.2.2.1, h.2.2.2.2.2.2.mono hb⟩
theorem Rep.mono (h : Rep M A Γ σ γ b) (hb : b ≤ b') : Rep M A Γ σ γ b' := ⟨h.1, h.2.1.mono hb, h.2.2⟩
theorem ov_up {nv w0 w1 w2 w p : Nat} {t : Nat → Option V2} {v : V2} (hp : p < 3) (h0 : OV M nv w0 (t 0)) (h1 : OV M nv w1 (t 1)) (h2 : OV M nv w2 (t 2)) (hw : So M 9 w = some [.int v.1, .long v.2]) (hv : v.1 ≠ 3) : ∃ q0 q1 q2, va_up (v3 (some w0) (some w1) (some w2)) p (some w) = v3 (some q0) (some q1) (some q2) ∧ OV M nv q0 (tup t p v 0) ∧ OV M nv q1 (tup t p v 1) ∧ OV M nv q2 (tup t p v 2) := by
  have hn : OV M nv w (some v) := Or.inr ⟨v, rfl, hw, hv⟩
  rcases (show p = 0 ∨ p = 1 ∨ p = 2 by omega) with rfl | rfl | rfl
  · exact ⟨w, w1, w2, v3_0 _ _ _ _, hn, h1, h2⟩
  · exact ⟨w0, w, w2, v3_1 _ _ _ _, h0, hn, h2⟩
  · exact ⟨w0, w1, w, v3_2 _ _ _ _, h0, h1, hn⟩
/-- what stands at port p of a frame -/
theorem ov_at {nv w0 w1 w2 p : Nat} {t : Nat → Option V2} (hp : p < 3) (h0 : OV M nv w0 (t 0)) (h1 : OV M nv w1 (t 1)) (h2 : OV M nv w2 (t 2)) (hnv : So M 9 nv = some [.int 3, .long 0]) : ∃ w k n, v3 (some w0) (some w1) (some w2) p = some w ∧ So M 9 w = some [.int k, n] ∧ (k = 3 ↔ t p = none) := by
  have aux : ∀ {w : Nat} {o : Option V2}, OV M nv w o → ∃ k n, So M 9 w = some [.int k, n] ∧ (k = 3 ↔ o = none) := by
    intro w o h
    rcases h with ⟨rfl, rfl⟩ | ⟨v, rfl, q1, q2⟩
    · exact ⟨3, .long 0, hnv, by simp⟩
    · exact ⟨v.1, .long v.2, q1, by simp [q2]⟩
  rcases (show p = 0 ∨ p = 1 ∨ p = 2 by omega) with rfl | rfl | rfl
  · obtain ⟨k, n, q1, q2⟩ := aux h0; exact ⟨w0, k, n, rfl, q1, q2⟩
  · obtain ⟨k, n, q1, q2⟩ := aux h1; exact ⟨w1, k, n, rfl, q1, q2⟩
  · obtain ⟨k, n, q1, q2⟩ := aux h2; exact ⟨w2, k, n, rfl, q1, q2⟩
theorem ct_come (h : Rep M A Γ σ γ b) (hb : b + 250 ≤ 14400000) {i p c w : Nat} {v : V2} (hi : i < (sN σ).length) (hp : p < pts σ i) (hc : c < (sC σ).length) (hwv : So M 9 w = some [.int v.1, .long v.2]) (hv : GV (sA σ) v) : CT G 8 180 mX9_come [.ref (aT A), .ref (nad Γ i), .int (nI p), .ref w, .int (nI c)] M (RQ M A Γ (come σ i p c v) γ (b + 250)) := by
  obtain ⟨hH, hB, hG⟩ := h
  have hpb := pts_b σ i
  have hp3 : p < 3 := by omega
  have hc151 : c < 151 := by have := hG.2.2.1.2.1; omega
  have hGc := hG.coming hi hp hc hv
  obtain ⟨hn300, htr3, -, -⟩ := hG.2.2.2.2.2.2.2.2.1
  have hH' : So M 10 (aT A) = some [.ref (aV A), .ref (aN A), .ref (aF A), .ref (aR A), .ref (aX A), .ref (aC A), .ref (aQ A), .int (nI (sNt σ)), .int (nI (sK σ).length), .int (nI (sTr σ)), .int (nI (sW σ)), .int (nI (sAl σ)), .int (nI (sB σ))] := hH
  have tail : sTr σ = 0 → sT σ i c p = none → ¬ 300 ≤ sNt σ + (sR σ).length + (sK σ).length → ∀ (M' : hx_S) (γ' : hf_S) (f : Nat), RepB M' A Γ σ γ' (b + 200) → So M' 10 (aT A) = some (HDf A σ) → f ∈ gG γ' (6, i) → gfc γ' f = nI c → (gcd γ' = gcd γ ∧ gkl γ' = gkl γ) → XE A M M' → XW G 8 180 mX9_come [.ref (aT A), .ref (nad Γ i), .int (nI p), .ref w, .int (nI c)] M (RQ M A Γ (come σ i p c v) γ (b + 250)) M' 92 [(5, .ref f), (0, .ref (aT A)), (1, .ref (nad Γ i)), (2, .int (nI p)), (3, .ref w), (4, .int (nI c))] [] := by
    intro t0 t1 t2 M' γ' f hB' hH2 hf hfc hcd hX
    obtain ⟨hna, c', hc', hfc', hft⟩ := (hB'.2.2.1.2.2.2.1 i hi).1 f hf
    obtain rfl : c' = c := (nI_eq (by omega) (by omega)).mp (hfc'.symm.trans hfc)
    obtain ⟨va, w0, w1, w2, p1, p2, p3, p4, p5, p6⟩ := hB'.2.1.2.2.1 f (hB'.inMD (act_6 hi) hf)
    have hwv' := hX.val hwv
    obtain ⟨q0, q1, q2, z0, z1, z2, z3⟩ := ov_up (v := v) (w := w) hp3 p4 p5 p6 hwv' hv.ne3
    have hcm : come σ i p c' v = if cnt (tup (sT σ i c') p v) = pts σ i then uR (uNt (uT σ (tset (sT σ) i c' no3)) (sNt σ + 1 - pts σ i)) (sR σ ++ [(i, c', tup (sT σ i c') p v)]) else uNt (uT σ (tset (sT σ) i c' (tup (sT σ i c') p v))) (sNt σ + 1) := by
      unfold come; rw [if_neg (by omega), if_neg (by rw [t1]; decide), if_neg t2]
    have hup := cnt_up (v := v) hp3 t1
    refine xw_aload dX9_come_92 rfl ?_
    refine xw_iload_n dX9_come_94 rfl rfl ?_
    refine xw_aload_n dX9_come_95 rfl rfl ?_
    refine xw_callV (q2 := mX4_put) (n2 := 2) (ci := 5) (Bs := [.int (nI p), .ref w]) (rest := []) (ct_put p2 p3 hp3 hwv') dX9_come_96 rfl (o_at p2) rfl rfl tw_410 tw_411 tw_412 tw_61 tw_413 (by decide +kernel) rfl (Nat.le_of_ble_eq_true rfl) (Nat.le_of_ble_eq_true rfl) (Nat.le_of_ble_eq_true rfl) (fun rr M1 hr hle1 => ?_)
    obtain ⟨rfl, hM1⟩ := hr
    rw [z0, nI_1, hft, ← hup] at hM1
    have e1 : Ext M' M1 (fun k x => k = 5 ∧ x = f) no1 (fun x => x = va) no1 := by rw [hM1]; exact (ext_rput.mono (fun _ _ => False.elim) (fun _ => id) (fun _ => id) (fun _ => id)).tr (ext_oput.mono (fun _ _ => id) (fun _ => id) (fun _ => False.elim) (fun _ => id))
    have hso : So M1 5 f = some [.ref (aV A), .ref va, .ref (gna γ' f), .int (gfc γ' f), .int (nI (cnt (tup (sT σ i c') p v)))] := by rw [hM1, So_oput, if_pos ⟨rfl, rfl⟩]
    have hno9 : ∀ x, ¬ (9 = 5 ∧ x = f) := fun _ z => absurd z.1 (by decide)
    have hB1 := hB'.filled (na := gna γ' f) (c := gfc γ' f) (t := tup (sT σ i c') p v) (σ' := uT σ (tset (sT σ) i c' (tup (sT σ i c') p v))) e1 p1 ⟨va, q0, q1, q2, p1, hso, by rw [hM1, Sr_oput, Sr_rput, if_pos ⟨rfl, rfl⟩], by rw [← hft]; exact z1.ext e1 hno9, by rw [← hft]; exact z2.ext e1 hno9, by rw [← hft]; exact z3.ext e1 hno9⟩ (hB'.2.2.1.put hi hc151 hf hfc) ⟨rfl, rfl, rfl, rfl, rfl, rfl⟩ rfl (by rw [hM1]; rfl) (by rw [hM1]; rfl) (fun q => by rw [hM1]; rfl)
    have hH3 : So M1 10 (aT A) = some [.ref (aV A), .ref (aN A), .ref (aF A), .ref (aR A), .ref (aX A), .ref (aC A), .ref (aQ A), .int (nI (sNt σ)), .int (nI (sK σ).length), .int (nI (sTr σ)), .int (nI (sW σ)), .int (nI (sAl σ)), .int (nI (sB σ))] := e1.so hH2 (fun z => absurd z.1 (by decide))
    have hX1 : XE A M M1 := hX.tr (e1.mono (fun _ _ z => Or.inl z.1) (fun _ _ => trivial) (fun _ _ => trivial) (fun _ => False.elim))
    have hnd1 := hB1.node hi
    clear hM1
    refine xw_aload_n dX9_come_99 rfl rfl ?_
    refine xw_dup dX9_come_100 rfl ?_
    refine xw_get (ci := 10) (k := 7) (v := .int (nI (sNt σ))) dX9_come_101 hH3 rfl inX9 (by decide) tw_187 (Or.inl rfl) rfl ?_
    refine xw_iconst (v := 1) dX9_come_104 (by decide) ?_
    refine xw_iadd dX9_come_105 ?_
    rw [nI_1]
    refine xw_put (ci := 10) (k := 7) tyX9 dX9_come_106 hH3 rfl inX9 tyX9_ok nmX9 (by decide) tw_187 (Or.inl rfl) rfl rfl rfl rfl (Nat.le_of_ble_eq_true rfl) ?_
    dsimp only [List.set]
    have hB2 := hB1.hd (a := aT A) (x := some [.ref (aV A), .ref (aN A), .ref (aF A), .ref (aR A), .ref (aX A), .ref (aC A), .ref (aQ A), .int (nI (sNt σ + 1)), .int (nI (sK σ).length), .int (nI (sTr σ)), .int (nI (sW σ)), .int (nI (sAl σ)), .int (nI (sB σ))])
    have hH4 : So (oput M1 10 (aT A) (some [.ref (aV A), .ref (aN A), .ref (aF A), .ref (aR A), .ref (aX A), .ref (aC A), .ref (aQ A), .int (nI (sNt σ + 1)), .int (nI (sK σ).length), .int (nI (sTr σ)), .int (nI (sW σ)), .int (nI (sAl σ)), .int (nI (sB σ))])) 10 (aT A) = some [.ref (aV A), .ref (aN A), .ref (aF A), .ref (aR A), .ref (aX A), .ref (aC A), .ref (aQ A), .int (nI (sNt σ + 1)), .int (nI (sK σ).length), .int (nI (sTr σ)), .int (nI (sW σ)), .int (nI (sAl σ)), .int (nI (sB σ))] := by rw [So_oput, if_pos ⟨rfl, rfl⟩]
    have hso2 : So (oput M1 10 (aT A) (some [.ref (aV A), .ref (aN A), .ref (aF A), .ref (aR A), .ref (aX A), .ref (aC A), .ref (aQ A), .int (nI (sNt σ + 1)), .int (nI (sK σ).length), .int (nI (sTr σ)), .int (nI (sW σ)), .int (nI (sAl σ)), .int (nI (sB σ))])) 5 f = _ := hso
    have hnd2 := hB2.node hi
    have hX2 := hX1.tr (xe_hd (a := aT A) (x := some [.ref (aV A), .ref (aN A), .ref (aF A), .ref (aR A), .ref (aX A), .ref (aC A), .ref (aQ A), .int (nI (sNt σ + 1)), .int (nI (sK σ).length), .int (nI (sTr σ)), .int (nI (sW σ)), .int (nI (sAl σ)), .int (nI (sB σ))]))
    generalize oput M1 10 (aT A) (some [.ref (aV A), .ref (aN A), .ref (aF A), .ref (aR A), .ref (aX A), .ref (aC A), .ref (aQ A), .int (nI (sNt σ + 1)), .int (nI (sK σ).length), .int (nI (sTr σ)), .int (nI (sW σ)), .int (nI (sAl σ)), .int (nI (sB σ))]) = M2 at hB2 hH4 hso2 hnd2 hX2 ⊢
    refine xw_aload dX9_come_109 rfl ?_
    refine xw_get (ci := 5) (k := 4) (v := .int (nI (cnt (tup (sT σ i c') p v)))) dX9_come_111 hso2 rfl inX4 (by decide) tw_386 (Or.inl rfl) rfl ?_
    refine xw_aload_n dX9_come_114 rfl rfl ?_
    refine xw_get (ci := 7) (k := 3) (v := .int (nI (pts σ i))) dX9_come_115 hnd2 rfl inX6 (by decide) tw_580 (Or.inl rfl) rfl ?_
    have hcl := cnt_le (tup (sT σ i c') p v)
    refine xw_icmp_ne (tgt := 150) dX9_come_118 (by decide) (fun c1 => ?_) (fun c1 => ?_)
    · have t3 : ¬ cnt (tup (sT σ i c') p v) = pts σ i := fun z => c1 (by rw [z])
      rw [hcm, if_neg t3] at hGc ⊢
      exact xw_vret rfl dX9_come_150 ⟨rfl, _, ⟨hH4, (hB2.cg (σ' := uNt (uT σ (tset (sT σ) i c' (tup (sT σ i c') p v))) (sNt σ + 1)) ⟨rfl, rfl, rfl, rfl, rfl, rfl⟩ rfl rfl rfl).mono (by omega), hGc⟩, hcd, hX2⟩
    · have t3 : cnt (tup (sT σ i c') p v) = pts σ i := (nI_eq (by omega) (by omega)).mp c1
      have hnt := hG.nt i c'
      refine xw_aload_n dX9_come_121 rfl rfl ?_
      refine xw_dup dX9_come_122 rfl ?_
      refine xw_get (ci := 10) (k := 7) (v := .int (nI (sNt σ + 1))) dX9_come_123 hH4 rfl inX9 (by decide) tw_187 (Or.inl rfl) rfl ?_
      refine xw_aload_n dX9_come_126 rfl rfl ?_
      refine xw_get (ci := 7) (k := 3) (v := .int (nI (pts σ i))) dX9_come_127 hnd2 rfl inX6 (by decide) tw_580 (Or.inl rfl) rfl ?_
      refine xw_isub dX9_come_130 ?_
      refine xw_pc (pc2 := 131) rfl ?_
      rw [show nI (sNt σ + 1) - nI (pts σ i) = nI (sNt σ + 1 - pts σ i) from pk_sub (by omega)]
      refine xw_put (ci := 10) (k := 7) tyX9 dX9_come_131 hH4 rfl inX9 tyX9_ok nmX9 (by decide) tw_187 (Or.inl rfl) rfl rfl rfl rfl (Nat.le_of_ble_eq_true rfl) ?_
      dsimp only [List.set]
      have hB3 := hB2.hd (a := aT A) (x := some [.ref (aV A), .ref (aN A), .ref (aF A), .ref (aR A), .ref (aX A), .ref (aC A), .ref (aQ A), .int (nI (sNt σ + 1 - pts σ i)), .int (nI (sK σ).length), .int (nI (sTr σ)), .int (nI (sW σ)), .int (nI (sAl σ)), .int (nI (sB σ))])
      have hH5 : So (oput M2 10 (aT A) (some [.ref (aV A), .ref (aN A), .ref (aF A), .ref (aR A), .ref (aX A), .ref (aC A), .ref (aQ A), .int (nI (sNt σ + 1 - pts σ i)), .int (nI (sK σ).length), .int (nI (sTr σ)), .int (nI (sW σ)), .int (nI (sAl σ)), .int (nI (sB σ))])) 10 (aT A) = some [.ref (aV A), .ref (aN A), .ref (aF A), .ref (aR A), .ref (aX A), .ref (aC A), .ref (aQ A), .int (nI (sNt σ + 1 - pts σ i)), .int (nI (sK σ).length), .int (nI (sTr σ)), .int (nI (sW σ)), .int (nI (sAl σ)), .int (nI (sB σ))] := by rw [So_oput, if_pos ⟨rfl, rfl⟩]
      have hX3 := hX2.tr (xe_hd (a := aT A) (x := some [.ref (aV A), .ref (aN A), .ref (aF A), .ref (aR A), .ref (aX A), .ref (aC A), .ref (aQ A), .int (nI (sNt σ + 1 - pts σ i)), .int (nI (sK σ).length), .int (nI (sTr σ)), .int (nI (sW σ)), .int (nI (sAl σ)), .int (nI (sB σ))]))
      generalize oput M2 10 (aT A) (some [.ref (aV A), .ref (aN A), .ref (aF A), .ref (aR A), .ref (aX A), .ref (aC A), .ref (aQ A), .int (nI (sNt σ + 1 - pts σ i)), .int (nI (sK σ).length), .int (nI (sTr σ)), .int (nI (sW σ)), .int (nI (sAl σ)), .int (nI (sB σ))]) = M3 at hB3 hH5 hX3 ⊢
      refine xw_wf fun hw3 => ?_
      refine xw_aload_n dX9_come_134 rfl rfl ?_
      refine xw_iload dX9_come_135 rfl ?_
      have hf3 : f ∈ gG (fill γ' f (gna γ' f) (gfc γ' f) (tup (sT σ i c') p v)) (6, i) := hf
      have hfc3 : gfc (fill γ' f (gna γ' f) (gfc γ' f) (tup (sT σ i c') p v)) f = nI c' := (if_pos rfl).trans hfc
      obtain ⟨⟨y3, hy3⟩, hro3⟩ := hB3.2.1.2.1 (6, i) (act_6 hi)
      refine xw_callV (q2 := mX6_dropFrameIn) (n2 := 1) (ci := 7) (Bs := [.int (nI c')]) (rest := []) (ct_dropFrameIn hB3 (by omega) hi hc151 hf3 hfc3 hy3) dX9_come_137 rfl (o_at (hB3.node hi)) rfl rfl tw_414 tw_415 tw_416 tw_53 tw_417 (by decide +kernel) rfl (Nat.le_of_ble_eq_true rfl) (Nat.le_of_ble_eq_true rfl) (Nat.le_of_ble_eq_true rfl) (fun rr M1 hr hle1 => ?_)
      obtain ⟨rfl, k, hk, rfl⟩ := hr
      have e4 : Ext M3 (qput M3 (nfr Γ i) (some ((gG (fill γ' f (gna γ' f) (gfc γ' f) (tup (sT σ i c') p v)) (6, i)).eraseIdx k, y3.1, y3.2.1, y3.2.2 + 1))) no2 (fun x => x = nfr Γ i) no1 no1 := ext_qput
      have hne : nfr Γ i ≠ aE A := fun z => by have u := (hB3.2.1.2.1 (2, 0) act_2).2; rw [ad_2, ← z, show gro _ (nfr Γ i) = (6, i) from hro3] at u; cases u
      have hB4 := hB3.list (r0 := (6, i)) (r1 := (4, 0)) (f := f) (σ' := uT (uT σ (tset (sT σ) i c' (tup (sT σ i c') p v))) (tset (tset (sT σ) i c' (tup (sT σ i c') p v)) i c' no3)) (act_6 hi) e4 ⟨_, by rw [ad_6, Sq_qput, if_pos rfl]⟩ (hB3.2.2.1.unwait hi hc151 hk hfc3) ⟨rfl, rfl, rfl, rfl, rfl, rfl⟩ (hB3.2.2.2.2.2.2.less hw3 hy3 (List.length_eraseIdx_le _ _) hne)
      have hH6 := e4.so hH5 id
      have hX4 := hX3.tr (e4.mono (fun _ _ => False.elim) (fun _ _ => trivial) (fun _ _ => trivial) (fun _ => False.elim))
      have hfl4 : fly (mv (fill γ' f (gna γ' f) (gfc γ' f) (tup (sT σ i c') p v)) (6, i) ((gG (fill γ' f (gna γ' f) (gfc γ' f) (tup (sT σ i c') p v)) (6, i)).eraseIdx k) f (4, 0)) f := ⟨hB3.inMD (act_6 hi) hf3, by rw [mv_pl, if_pos rfl]⟩
      generalize qput M3 (nfr Γ i) (some ((gG (fill γ' f (gna γ' f) (gfc γ' f) (tup (sT σ i c') p v)) (6, i)).eraseIdx k, y3.1, y3.2.1, y3.2.2 + 1)) = M4 at e4 hB4 hH6 hX4 ⊢
      refine xw_wf fun hw4 => ?_
      obtain ⟨⟨y4, hy4⟩, hro4⟩ := hB4.2.1.2.1 (3, 0) act_3
      refine xw_aload_n dX9_come_140 rfl rfl ?_
      refine xw_get (ci := 10) (k := 3) (v := .ref (aR A)) dX9_come_141 hH6 rfl inX9 (by decide) tw_183 (Or.inl rfl) rfl ?_
      refine xw_aload dX9_come_144 rfl ?_
      obtain ⟨vs, hvs⟩ := hB4.isF hfl4.1
      refine xw_callV (q2 := mJx4a65c_add_9ea2d) (n2 := 1) (ci := 0) (Bs := [.ref f]) (rest := []) (ct_add (ci := 5) hy4 (hB4.2.2.2.2.2.2.cap (by omega) hy4) (by decide) hvs rfl ks_F (fun g hg => hB4.isF (hB4.inMD act_3 hg))) dX9_come_146 rfl (q_at hy4) rfl rfl tw_409 tw_280 tw_281 tw_43 tw_282 (by decide +kernel) rfl (Nat.le_of_ble_eq_true rfl) (Nat.le_of_ble_eq_true rfl) (Nat.le_of_ble_eq_true rfl) (fun rr M1 hr hle1 => ?_)
      obtain ⟨rfl, rfl⟩ := hr
      refine xw_pop dX9_come_149 rfl ?_
      have hne4 : aR A ≠ aE A := fun z => by have u := (hB4.2.1.2.1 (2, 0) act_2).2; rw [ad_2, ← z, show gro _ (aR A) = (3, 0) from hro4] at u; cases u
      have hB5 := hB4.list (r0 := (3, 0)) (r1 := (3, 0)) (f := f) (b' := b + 250) (σ' := uR (uT (uT σ (tset (sT σ) i c' (tup (sT σ i c') p v))) (tset (tset (sT σ) i c' (tup (sT σ i c') p v)) i c' no3)) (sR σ ++ [(i, c', tup (sT σ i c') p v)])) act_3 ext_addq (lq_addq (x := (_, y4)) (v := f)) (hB4.2.2.1.ready hfl4 ⟨(if_pos rfl).trans hna, hfc3, if_pos rfl⟩) ⟨rfl, rfl, rfl, rfl, rfl, rfl⟩ ((hB4.2.2.2.2.2.2.add hw4 hy4 hne4).mono (by omega))
      rw [hcm, if_pos t3] at hGc ⊢
      refine xw_vret rfl dX9_come_150 ⟨rfl, _, ⟨?_, hB5.cg ⟨rfl, rfl, rfl, rfl, rfl, rfl⟩ (tset_tset _ _ _).symm rfl rfl, hGc⟩, hcd, hX4.tr (ext_addq.mono (fun _ _ => False.elim) (fun _ _ => trivial) (fun _ _ => trivial) (fun _ => False.elim))⟩
      rw [So_addq]; exact hH6
  refine ct_wf fun hw0 => ?_
  refine ct_go (by decide +kernel) (Nat.le_of_ble_eq_true rfl) (L := [(0, .ref (aT A)), (1, .ref (nad Γ i)), (2, .int (nI p)), (3, .ref w), (4, .int (nI c))]) rfl ?_
  refine xw_aload_n dX9_come_0 rfl rfl ?_
  refine xw_get (ci := 10) (k := 9) (v := .int (nI (sTr σ))) dX9_come_1 hH' rfl inX9 (by decide) tw_189 (Or.inl rfl) rfl ?_
  refine xw_if_eq (tgt := 8) dX9_come_4 (by decide) (fun d1 => ?_) (fun d1 => ?_)
  · have t0 : sTr σ = 0 := (nI_eq (by omega) (by decide)).mp (show nI (sTr σ) = nI 0 from d1)
    refine xw_aload_n dX9_come_8 rfl rfl ?_
    refine xw_iload dX9_come_9 rfl ?_
    refine xw_callV (q2 := mX6_frameIn) (n2 := 1) (ci := 7) (Bs := [.int (nI c)]) (rest := []) (ct_frameIn hB (by omega) hi hc151) dX9_come_11 rfl (o_at (hB.node hi)) rfl rfl tw_349 tw_350 tw_351 tw_53 tw_352 (by decide +kernel) rfl (Nat.le_of_ble_eq_true rfl) (Nat.le_of_ble_eq_true rfl) (Nat.le_of_ble_eq_true rfl) (fun rr M1 hr hle1 => ?_)
    obtain ⟨hM1, hr⟩ := hr
    obtain rfl := hM1.symm
    obtain ⟨⟨yr, hyr⟩, hror⟩ := hB.2.1.2.1 (3, 0) act_3
    rw [ad_3] at hyr
    have hlr : (gG γ (3, 0)).length = (sR σ).length := by
      have := congrArg List.length hB.2.2.1.2.2.2.2.1
      rw [List.length_map, List.length_map] at this
      exact this.symm
    have hsum : nI (sNt σ) + nI (gG γ (3, 0)).length + nI (sK σ).length = nI (sNt σ + (sR σ).length + (sK σ).length) := by rw [nI_add, nI_add, hlr]
    rcases hr with ⟨rfl, hno⟩ | ⟨f, rfl, hf, hfc⟩
    · skip
      refine xw_astoreN (L2 := [(5, .null), (0, .ref (aT A)), (1, .ref (nad Γ i)), (2, .int (nI p)), (3, .ref w), (4, .int (nI c))]) dX9_come_14 (by decide) rfl ?_
      refine xw_aloadN dX9_come_16 rfl ?_
      refine xw_ifnullN (tgt := 36) dX9_come_18 (by decide) ?_
      refine xw_aload_n dX9_come_36 rfl rfl ?_
      refine xw_get (ci := 10) (k := 7) (v := .int (nI (sNt σ))) dX9_come_37 hH' rfl inX9 (by decide) tw_187 (Or.inl rfl) rfl ?_
      refine xw_aload_n dX9_come_40 rfl rfl ?_
      refine xw_get (ci := 10) (k := 3) (v := .ref (aR A)) dX9_come_41 hH' rfl inX9 (by decide) tw_183 (Or.inl rfl) rfl ?_
      refine xw_pc (pc2 := 44) rfl ?_
      refine xw_callV (q2 := mJx4a65c_size_8abf5) (n2 := 0) (ci := 0) (Bs := []) (rest := [.int (nI (sNt σ))]) (ct_size hyr) dX9_come_44 rfl (q_at hyr) rfl rfl tw_228 tw_229 tw_230 tw_43 tw_231 (by decide +kernel) rfl (Nat.le_of_ble_eq_true rfl) (Nat.le_of_ble_eq_true rfl) (Nat.le_of_ble_eq_true rfl) (fun rr M1 hr hle1 => ?_)
      obtain ⟨rfl, hM1⟩ := hr
      obtain rfl := hM1.symm
      refine xw_iadd dX9_come_47 ?_
      refine xw_aload_n dX9_come_48 rfl rfl ?_
      refine xw_get (ci := 10) (k := 8) (v := .int (nI (sK σ).length)) dX9_come_49 hH' rfl inX9 (by decide) tw_188 (Or.inl rfl) rfl ?_
      refine xw_iadd dX9_come_52 ?_
      refine xw_sipush (v := 300) dX9_come_53 (by decide) ?_
      rw [show nI (sNt σ) + nI (gG γ (3, 0), yr).1.length + nI (sK σ).length = nI (sNt σ + (sR σ).length + (sK σ).length) from hsum]
      have t1 : sT σ i c p = none := by
        rcases (hB.2.2.1.2.2.2.1 i hi).2.2 c hc151 with ⟨g, hg, hg2⟩ | z
        · exact absurd hg2 (hno g hg)
        · rw [z]; rfl
      refine xw_icmp_lt (tgt := 65) dX9_come_56 (by decide) (fun d2 => ?_) (fun d2 => ?_)
      · have t2 : ¬ 300 ≤ sNt σ + (sR σ).length + (sK σ).length := fun z => absurd d2 (nI_nlt (a := sNt σ + (sR σ).length + (sK σ).length) (b := 300) z (by omega))
        refine xw_aloadN dX9_come_65 rfl ?_
        refine xw_ifnonnullN dX9_come_67 ?_
        refine xw_aload_n dX9_come_70 rfl rfl ?_
        refine xw_get (ci := 10) (k := 2) (v := .ref (aF A)) dX9_come_71 hH' rfl inX9 (by decide) tw_182 (Or.inl rfl) rfl ?_
        refine xw_aload_n dX9_come_74 rfl rfl ?_
        refine xw_iload dX9_come_75 rfl ?_
        refine xw_callV (q2 := mX5_take) (n2 := 2) (ci := 6) (Bs := [.ref (nad Γ i), .int (nI c)]) (rest := []) (ct_take hB (by omega)) dX9_come_77 rfl (o_at hB.2.1.2.2.2.1) rfl rfl tw_359 tw_360 tw_361 tw_44 tw_362 (by decide +kernel) rfl (Nat.le_of_ble_eq_true rfl) (Nat.le_of_ble_eq_true rfl) (Nat.le_of_ble_eq_true rfl) (fun rr M1 hr hle1 => ?_)
        obtain ⟨f, γ1, rfl, hB1, hfl1, ⟨g1, g2, g3⟩, ⟨u1, u2, u3⟩, hX1⟩ := hr
        refine xw_astore (L2 := [(5, .ref f), (0, .ref (aT A)), (1, .ref (nad Γ i)), (2, .int (nI p)), (3, .ref w), (4, .int (nI c))]) dX9_come_80 (by decide) rfl ?_
        refine xw_aload_n dX9_come_82 rfl rfl ?_
        refine xw_wf fun hw1 => ?_
        obtain ⟨⟨y1, hy1⟩, hro1⟩ := hB1.2.1.2.1 (6, i) (act_6 hi)
        rw [ad_6] at hy1 hro1
        refine xw_get (ci := 7) (k := 7) (v := .ref (nfr Γ i)) dX9_come_83 (hB1.node hi) rfl inX6 (by decide) tw_588 (Or.inl rfl) rfl ?_
        refine xw_aload dX9_come_86 rfl ?_
        refine xw_pc (pc2 := 88) rfl ?_
        obtain ⟨vs, hvs⟩ := hB1.isF hfl1.1
        refine xw_callV (q2 := mJx4a65c_add_9ea2d) (n2 := 1) (ci := 0) (Bs := [.ref f]) (rest := []) (ct_add (ci := 5) hy1 (hB1.2.2.2.2.2.2.cap (by omega) hy1) (by decide) hvs rfl ks_F (fun g hg => hB1.isF (hB1.inMD (act_6 hi) hg))) dX9_come_88 rfl (q_at hy1) rfl rfl tw_409 tw_280 tw_281 tw_43 tw_282 (by decide +kernel) rfl (Nat.le_of_ble_eq_true rfl) (Nat.le_of_ble_eq_true rfl) (Nat.le_of_ble_eq_true rfl) (fun rr M1 hr hle1 => ?_)
        obtain ⟨rfl, rfl⟩ := hr
        have hne1 : nfr Γ i ≠ aE A := fun z => by have u := (hB1.2.1.2.1 (2, 0) act_2).2; rw [ad_2, ← z, hro1] at u; cases u
        have hB2 := hB1.list (r0 := (6, i)) (r1 := (6, i)) (f := f) (σ' := σ) (act_6 hi) ext_addq (lq_addq (x := (_, y1)) (v := f)) (hB1.2.2.1.wait hfl1 hi hc151 ⟨g1, g2, g3⟩ (fun g hg => by
          have hgf : g ≠ f := fun z => fly.out (n := 0) hB1.2.2.1 hfl1 (act_6 hi) (z ▸ hg)
          rw [u1 (6, i) (by simp)] at hg
          rw [(u3 g hgf).2.1]
          exact hno g hg)) ⟨rfl, rfl, rfl, rfl, rfl, rfl⟩ (hB1.2.2.2.2.2.2.add hw1 hy1 hne1)
        refine xw_pop dX9_come_91 rfl ?_
        refine tail t0 t1 t2 _ _ f (hB2.mono (by omega)) ?_ ?_ ?_ u2 (hX1.xe.tr (ext_addq.mono (fun _ _ => False.elim) (fun _ _ => trivial) (fun _ _ => trivial) (fun _ => False.elim)))
        · rw [So_addq]; exact hX1.so hH (by decide)
        · rw [mv_G, if_pos rfl]; exact List.mem_append_right _ (by simp)
        · exact g2
      · have t2 : 300 ≤ sNt σ + (sR σ).length + (sK σ).length := Nat.le_of_not_lt (fun z => d2 (nI_lt z (by decide)))
        refine xw_aload_n dX9_come_59 rfl rfl ?_
        refine xw_iconst (v := 2) dX9_come_60 (by decide) ?_
        refine xw_put (ci := 10) (k := 9) tyX9 dX9_come_61 hH' rfl inX9 tyX9_ok nmX9 (by decide) tw_189 (Or.inl rfl) rfl rfl rfl rfl (Nat.le_of_ble_eq_true rfl) ?_
        dsimp only [List.set]
        have hcm : come σ i p c v = uTr σ 2 := by unfold come; rw [if_neg (by omega), if_neg (by rw [t1]; decide), if_pos t2]
        rw [hcm] at hGc ⊢
        exact xw_vret rfl dX9_come_64 ⟨rfl, γ, ⟨by rw [So_oput, if_pos ⟨rfl, rfl⟩]; rfl, (hB.hd.cg (σ' := uTr σ 2) ⟨rfl, rfl, rfl, rfl, rfl, rfl⟩ rfl rfl rfl).mono (by omega), hGc⟩, ⟨rfl, rfl⟩, xe_hd⟩
    · obtain ⟨hna, c', hc', hfc', hft⟩ := (hB.2.2.1.2.2.2.1 i hi).1 f hf
      obtain rfl : c' = c := (nI_eq (by omega) (by omega)).mp (hfc'.symm.trans hfc)
      obtain ⟨va, w0, w1, w2, p1, p2, p3, p4, p5, p6⟩ := hB.2.1.2.2.1 f (hB.inMD (act_6 hi) hf)
      obtain ⟨wp, kp, np, m1, m2, m3⟩ := ov_at hp3 p4 p5 p6 hB.2.1.2.2.2.2
      refine xw_astore (L2 := [(5, .ref f), (0, .ref (aT A)), (1, .ref (nad Γ i)), (2, .int (nI p)), (3, .ref w), (4, .int (nI c'))]) dX9_come_14 (by decide) rfl ?_
      refine xw_aload dX9_come_16 rfl ?_
      refine xw_ifnull dX9_come_18 ?_
      refine xw_aload dX9_come_21 rfl ?_
      refine xw_iload_n dX9_come_23 rfl rfl ?_
      refine xw_callV (q2 := mX4_holds) (n2 := 1) (ci := 5) (Bs := [.int (nI p)]) (rest := []) (ct_holds p2 p3 hp3 m1 m2) dX9_come_24 rfl (o_at p2) rfl rfl tw_355 tw_356 tw_357 tw_61 tw_358 (by decide +kernel) rfl (Nat.le_of_ble_eq_true rfl) (Nat.le_of_ble_eq_true rfl) (Nat.le_of_ble_eq_true rfl) (fun rr M1 hr hle1 => ?_)
      obtain ⟨rfl, hM1⟩ := hr
      obtain rfl := hM1.symm
      by_cases t1 : kp = 3
      · have t1' : sT σ i c' p = none := by rw [← hft]; exact m3.mp t1
        rw [if_pos t1]
        refine xw_if_eq (tgt := 36) dX9_come_27 (by decide) (fun _ => ?_) (fun zz => absurd (by decide) zz)
        refine xw_aload_n dX9_come_36 rfl rfl ?_
        refine xw_get (ci := 10) (k := 7) (v := .int (nI (sNt σ))) dX9_come_37 hH' rfl inX9 (by decide) tw_187 (Or.inl rfl) rfl ?_
        refine xw_aload_n dX9_come_40 rfl rfl ?_
        refine xw_get (ci := 10) (k := 3) (v := .ref (aR A)) dX9_come_41 hH' rfl inX9 (by decide) tw_183 (Or.inl rfl) rfl ?_
        refine xw_callV (q2 := mJx4a65c_size_8abf5) (n2 := 0) (ci := 0) (Bs := []) (rest := [.int (nI (sNt σ))]) (ct_size hyr) dX9_come_44 rfl (q_at hyr) rfl rfl tw_228 tw_229 tw_230 tw_43 tw_231 (by decide +kernel) rfl (Nat.le_of_ble_eq_true rfl) (Nat.le_of_ble_eq_true rfl) (Nat.le_of_ble_eq_true rfl) (fun rr M1 hr hle1 => ?_)
        obtain ⟨rfl, hM1⟩ := hr
        obtain rfl := hM1.symm
        refine xw_iadd dX9_come_47 ?_
        refine xw_aload_n dX9_come_48 rfl rfl ?_
        refine xw_get (ci := 10) (k := 8) (v := .int (nI (sK σ).length)) dX9_come_49 hH' rfl inX9 (by decide) tw_188 (Or.inl rfl) rfl ?_
        refine xw_iadd dX9_come_52 ?_
        refine xw_sipush (v := 300) dX9_come_53 (by decide) ?_
        refine xw_pc (pc2 := 56) rfl ?_
        rw [show nI (sNt σ) + nI (gG γ (3, 0), yr).1.length + nI (sK σ).length = nI (sNt σ + (sR σ).length + (sK σ).length) from hsum]
        refine xw_icmp_lt (tgt := 65) dX9_come_56 (by decide) (fun d2 => ?_) (fun d2 => ?_)
        · have t2 : ¬ 300 ≤ sNt σ + (sR σ).length + (sK σ).length := fun z => absurd d2 (nI_nlt (a := sNt σ + (sR σ).length + (sK σ).length) (b := 300) z (by omega))
          refine xw_aload dX9_come_65 rfl ?_
          refine xw_ifnonnull (tgt := 92) dX9_come_67 (by decide) ?_
          exact xw_pc rfl (tail t0 t1' t2 _ _ f (hB.mono (by omega)) hH hf hfc ⟨rfl, rfl⟩ (XE.rf _ _))
        · have t2 : 300 ≤ sNt σ + (sR σ).length + (sK σ).length := Nat.le_of_not_lt (fun z => d2 (nI_lt z (by decide)))
          refine xw_aload_n dX9_come_59 rfl rfl ?_
          refine xw_iconst (v := 2) dX9_come_60 (by decide) ?_
          refine xw_put (ci := 10) (k := 9) tyX9 dX9_come_61 hH' rfl inX9 tyX9_ok nmX9 (by decide) tw_189 (Or.inl rfl) rfl rfl rfl rfl (Nat.le_of_ble_eq_true rfl) ?_
          dsimp only [List.set]
          have hcm : come σ i p c' v = uTr σ 2 := by unfold come; rw [if_neg (by omega), if_neg (by rw [t1']; decide), if_pos t2]
          rw [hcm] at hGc ⊢
          exact xw_vret rfl dX9_come_64 ⟨rfl, γ, ⟨by rw [So_oput, if_pos ⟨rfl, rfl⟩]; rfl, (hB.hd.cg (σ' := uTr σ 2) ⟨rfl, rfl, rfl, rfl, rfl, rfl⟩ rfl rfl rfl).mono (by omega), hGc⟩, ⟨rfl, rfl⟩, xe_hd⟩
      · rw [if_neg t1]
        refine xw_if_eq (tgt := 36) dX9_come_27 (by decide) (fun zz => absurd zz (by decide)) (fun _ => ?_)
        refine xw_aload_n dX9_come_30 rfl rfl ?_
        refine xw_iconst (v := 1) dX9_come_31 (by decide) ?_
        refine xw_put (ci := 10) (k := 9) tyX9 dX9_come_32 hH' rfl inX9 tyX9_ok nmX9 (by decide) tw_189 (Or.inl rfl) rfl rfl rfl rfl (Nat.le_of_ble_eq_true rfl) ?_
        dsimp only [List.set]
        have hcm : come σ i p c' v = uTr σ 1 := by
          unfold come
          rw [if_neg (by omega), if_pos]
          rw [← hft]
          cases e : gft γ f p with
          | none => exact absurd (m3.mpr e) t1
          | some x => rfl
        rw [hcm] at hGc ⊢
        exact xw_vret rfl dX9_come_35 ⟨rfl, γ, ⟨by rw [So_oput, if_pos ⟨rfl, rfl⟩]; rfl, (hB.hd.cg (σ' := uTr σ 1) ⟨rfl, rfl, rfl, rfl, rfl, rfl⟩ rfl rfl rfl).mono (by omega), hGc⟩, ⟨rfl, rfl⟩, xe_hd⟩
  · have t0 : sTr σ ≠ 0 := fun z => d1 (by rw [z]; rfl)
    have hcm : come σ i p c v = σ := by unfold come; rw [if_pos t0]
    rw [hcm]
    exact xw_vret rfl dX9_come_7 ⟨rfl, γ, ⟨hH, hB.mono (by omega), hG⟩, ⟨rfl, rfl⟩, XE.rf _ _⟩
end COME
