/-! ARRAYLIST: remove, clear -/
section J4
variable {G : hx_G} {M : hx_S} {a ci N : Nat} {C : String} {T0 : u_T}
theorem ct_fastRemove {m e cap i : Nat} {mc : Int32} {f : Nat → Option Nat} (ho : So M 0 a = some [.int mc, .ref e, .int (nI (m + 1))]) (hr0 : Sr M 2 e = some (cap, f)) (hi : i ≤ m) (hn : m + 1 ≤ cap) (hc : cap ≤ 20000001) (hci : 0 < ci) (hc0 : vwCl[ci]? = some (C, T0, N)) (hcast : ∀ s : State, KS G s → va_Nw (.castable C "java/lang/Object") s) (hel : ∀ i y : Nat, i < cap → f i = some y → ∃ vs, So M ci y = some vs) :
    CT G 1 26 mJx4a65c_fastRemove_b59b0 [.ref a, .ref e, .int (nI i)] M (fun r M1 => r = none ∧ M1 = oput (rput M 2 e (some (cap, va_up (if i < m then va_cpy f f (i + 1) i (m - i) else f) m none))) 0 a (some [.int (mc + 1), .ref e, .int (nI m)])) := by
  refine ct_go (by decide +kernel) (Nat.le_of_ble_eq_true rfl) (L := [(0, .ref a), (1, .ref e), (2, .int (nI i))]) rfl ?_
  have ho1 : So (oput M 0 a (some [.int (mc + 1), .ref e, .int (nI (m + 1))])) 0 a = some [.int (mc + 1), .ref e, .int (nI (m + 1))] := by rw [So_oput, if_pos ⟨rfl, rfl⟩]
  have hr1 : Sr (oput M 0 a (some [.int (mc + 1), .ref e, .int (nI (m + 1))])) 2 e = some (cap, f) := hr0
  refine xw_aload_n dJx4a65c_fastRemove_b59b0_0 rfl rfl ?_
  refine xw_dup dJx4a65c_fastRemove_b59b0_1 rfl ?_
  refine xw_get (ci := 0) (k := 0) (v := .int mc) dJx4a65c_fastRemove_b59b0_2 ho rfl inJx4a65c (by decide) tw_107 (Or.inr tw_sf) rfl ?_
  refine xw_iconst (v := 1) dJx4a65c_fastRemove_b59b0_5 (by decide) ?_
  refine xw_iadd dJx4a65c_fastRemove_b59b0_6 ?_
  refine xw_put (ci := 0) (k := 0) tyJx4a65c dJx4a65c_fastRemove_b59b0_7 ho rfl inJx4a65c tyJx4a65c_ok nmJx4a65c (by decide) tw_107 (Or.inr tw_sf) rfl rfl rfl rfl (Nat.le_of_ble_eq_true rfl) ?_
  dsimp only [List.set]
  refine xw_aload_n dJx4a65c_fastRemove_b59b0_10 rfl rfl ?_
  refine xw_get (ci := 0) (k := 2) (v := .int (nI (m + 1))) dJx4a65c_fastRemove_b59b0_11 ho1 rfl inJx4a65c (by decide) tw_105 (Or.inl rfl) rfl ?_
  refine xw_iconst (v := 1) dJx4a65c_fastRemove_b59b0_14 (by decide) ?_
  refine xw_isub dJx4a65c_fastRemove_b59b0_15 ?_
  rw [nI_pred]
  refine xw_dup dJx4a65c_fastRemove_b59b0_16 rfl ?_
  refine xw_istore_n (L2 := [(3, .int (nI m)), (0, .ref a), (1, .ref e), (2, .int (nI i))]) dJx4a65c_fastRemove_b59b0_17 rfl (by decide) rfl ?_
  refine xw_iload_n dJx4a65c_fastRemove_b59b0_18 rfl rfl ?_
  by_cases hlt : i < m
  · have e1 : nI m - nI i = nI (m - i) := pk_sub (by omega)
    have q1 : (nI (i + 1)).toNatClampNeg = i + 1 := nI_clamp (by omega)
    have q2 : (nI i).toNatClampNeg = i := nI_clamp (by omega)
    have q3 : (nI (m - i)).toNatClampNeg = m - i := nI_clamp (by omega)
    refine xw_icmp_le (tgt := 34) dJx4a65c_fastRemove_b59b0_19 (by decide) (fun zz => absurd zz (fun z => absurd ((nI_leI (by omega) (by omega)).mp z) (by omega))) (fun _ => ?_)
    refine xw_aload_n dJx4a65c_fastRemove_b59b0_22 rfl rfl ?_
    refine xw_iload_n dJx4a65c_fastRemove_b59b0_23 rfl rfl ?_
    refine xw_iconst (v := 1) dJx4a65c_fastRemove_b59b0_24 (by decide) ?_
    refine xw_iadd dJx4a65c_fastRemove_b59b0_25 ?_
    refine xw_aload_n dJx4a65c_fastRemove_b59b0_26 rfl rfl ?_
    refine xw_iload_n dJx4a65c_fastRemove_b59b0_27 rfl rfl ?_
    refine xw_iload_n dJx4a65c_fastRemove_b59b0_28 rfl rfl ?_
    refine xw_iload_n dJx4a65c_fastRemove_b59b0_29 rfl rfl ?_
    refine xw_isub dJx4a65c_fastRemove_b59b0_30 ?_
    refine xw_pc (pc2 := 31) rfl ?_
    rw [nI_1, e1]
    refine xw_copy dJx4a65c_fastRemove_b59b0_31 hr1 hr1 (nI_pos (by omega)) (nI_pos (by omega)) (nI_pos (by omega)) (by rw [q1, q3]; omega) (by rw [q2, q3]; omega) hc0 hcast (fun j hj y hy => by rw [q1] at hy; rw [q3] at hj; obtain ⟨vs, h⟩ := hel _ y (by omega) hy; exact ⟨vs, by rw [So_oput, if_neg (fun z => by omega)]; exact h⟩) tw_408 tw_337 tw_57 (Nat.le_of_ble_eq_true rfl) (Nat.le_of_ble_eq_true rfl) ?_
    rw [q1, q2, q3]
    refine xw_aload_n dJx4a65c_fastRemove_b59b0_34 rfl rfl ?_
    refine xw_aload_n dJx4a65c_fastRemove_b59b0_35 rfl rfl ?_
    refine xw_iload_n dJx4a65c_fastRemove_b59b0_36 rfl rfl ?_
    refine xw_dup_x1 dJx4a65c_fastRemove_b59b0_37 rfl rfl ?_
    refine xw_put (ci := 0) (k := 2) tyJx4a65c dJx4a65c_fastRemove_b59b0_38 (show So (rput (oput M 0 a (some [.int (mc + 1), .ref e, .int (nI (m + 1))])) 2 e (some (cap, va_cpy f f (i + 1) i (m - i)))) 0 a = some [.int (mc + 1), .ref e, .int (nI (m + 1))] from ho1) rfl inJx4a65c tyJx4a65c_ok nmJx4a65c (by decide) tw_105 (Or.inl rfl) rfl rfl rfl rfl (Nat.le_of_ble_eq_true rfl) ?_
    dsimp only [List.set]
    refine xw_null dJx4a65c_fastRemove_b59b0_41 ?_
    refine xw_aastN dJx4a65c_fastRemove_b59b0_42 (show Sr _ 2 e = some (cap, va_cpy f f (i + 1) i (m - i)) by rw [Sr_oput, Sr_rput, if_pos ⟨rfl, rfl⟩]) (vp_in_nI (show m < cap by omega) (by omega)) ?_
    rw [nI_clamp (show m < 2 ^ 31 by omega)]
    exact xw_vret rfl dJx4a65c_fastRemove_b59b0_43 ⟨rfl, by rw [oput_rput, oput_rput, oput_oput, rput_rput, if_pos hlt]⟩
  · skip
    refine xw_icmp_le (tgt := 34) dJx4a65c_fastRemove_b59b0_19 (by decide) (fun _ => ?_) (fun zz => absurd (nI_le (show m ≤ i by omega) (by omega)) zz)
    refine xw_aload_n dJx4a65c_fastRemove_b59b0_34 rfl rfl ?_
    refine xw_aload_n dJx4a65c_fastRemove_b59b0_35 rfl rfl ?_
    refine xw_iload_n dJx4a65c_fastRemove_b59b0_36 rfl rfl ?_
    refine xw_dup_x1 dJx4a65c_fastRemove_b59b0_37 rfl rfl ?_
    refine xw_put (ci := 0) (k := 2) tyJx4a65c dJx4a65c_fastRemove_b59b0_38 ho1 rfl inJx4a65c tyJx4a65c_ok nmJx4a65c (by decide) tw_105 (Or.inl rfl) rfl rfl rfl rfl (Nat.le_of_ble_eq_true rfl) ?_
    dsimp only [List.set]
    refine xw_null dJx4a65c_fastRemove_b59b0_41 ?_
    refine xw_aastN dJx4a65c_fastRemove_b59b0_42 (show Sr _ 2 e = some (cap, f) from hr0) (vp_in_nI (show m < cap by omega) (by omega)) ?_
    rw [nI_clamp (show m < 2 ^ 31 by omega)]
    exact xw_vret rfl dJx4a65c_fastRemove_b59b0_43 ⟨rfl, by rw [oput_rput, oput_oput, if_neg hlt]⟩
theorem ct_remove {x : List Nat × Nat × Nat × Int32} {i : Nat} (hx : Sq M a = some x) (hi : i < x.1.length) (hc : x.2.1 ≤ 20000001) (hci : 0 < ci) (hc0 : vwCl[ci]? = some (C, T0, N)) (hcast : ∀ s : State, KS G s → va_Nw (.castable C "java/lang/Object") s) (hel : ∀ y, y ∈ x.1 → ∃ vs, So M ci y = some vs) :
    CT G 2 49 mJx4a65c_remove_915e3 [.ref a, .int (nI i)] M (fun r M1 => r = some (.ref x.1[i]) ∧ M1 = qput M a (some (x.1.eraseIdx i, x.2.1, x.2.2.1, x.2.2.2 + 1))) := by
  refine ct_wf fun hw => ?_
  obtain ⟨k1, k2, k3, k4⟩ := hw.2.2.2.2 a x hx
  obtain ⟨xs, cap, e, mc⟩ := x
  simp only at k3 k4 hc hel hi
  obtain ⟨m, hm⟩ : ∃ m, xs.length = m + 1 := ⟨xs.length - 1, by omega⟩
  have hc1 : ¬ cap = 0 := by omega
  have ho0 : So (qraw G M a (xs, cap, e, mc)) 0 a = some [.int mc, .ref e, .int (nI (m + 1))] := by rw [So_qself, qobj]; simp only [if_neg hc1, hm]
  have hr0 : Sr (qraw G M a (xs, cap, e, mc)) 2 e = some (cap, fun j => xs[j]?) := Sr_qself (x := (xs, cap, e, mc)) (show 0 < cap by omega)
  have hw2 : Wf (qput M a (some (xs.eraseIdx i, cap, e, mc + 1))) := wf_qset hw hx (by have := List.length_eraseIdx_le xs i; show (xs.eraseIdx i).length ≤ cap; omega) k4
  refine ct_go (by decide +kernel) (Nat.le_of_ble_eq_true rfl) (L := [(0, .ref a), (1, .int (nI i))]) rfl (xw_open hx ?_)
  refine xw_iload_n dJx4a65c_remove_915e3_0 rfl rfl ?_
  refine xw_aload_n dJx4a65c_remove_915e3_1 rfl rfl ?_
  refine xw_get (ci := 0) (k := 2) (v := .int (nI (m + 1))) dJx4a65c_remove_915e3_2 ho0 rfl inJx4a65c (by decide) tw_105 (Or.inl rfl) rfl ?_
  refine xw_callS (q2 := mJ15_checkIndex_7cf53) (n2 := 2) (Bs := [.int (nI i), .int (nI (m + 1))]) (rest := []) (ct_chk (show i < m + 1 by omega) (by omega)) dJx4a65c_remove_915e3_5 rfl tw_236 tw_237 tw_58 tw_238 (by decide +kernel) rfl (Nat.le_of_ble_eq_true rfl) (Nat.le_of_ble_eq_true rfl) (Nat.le_of_ble_eq_true rfl) (fun rr M1 hr hle1 => ?_)
  obtain ⟨rfl, rfl⟩ := hr
  refine xw_pop dJx4a65c_remove_915e3_8 rfl ?_
  refine xw_aload_n dJx4a65c_remove_915e3_9 rfl rfl ?_
  refine xw_pc (pc2 := 10) rfl ?_
  refine xw_get (ci := 0) (k := 1) (v := .ref e) dJx4a65c_remove_915e3_10 ho0 rfl inJx4a65c (by decide) tw_104 (Or.inl rfl) rfl ?_
  refine xw_astore_n (L2 := [(2, .ref e), (0, .ref a), (1, .int (nI i))]) dJx4a65c_remove_915e3_13 rfl (by decide) rfl ?_
  refine xw_aload_n dJx4a65c_remove_915e3_14 rfl rfl ?_
  refine xw_iload_n dJx4a65c_remove_915e3_15 rfl rfl ?_
  refine xw_aald (v := .ref xs[i]) dJx4a65c_remove_915e3_16 hr0 (vp_in_nI (show i < cap by omega) (by omega)) (by rw [nI_clamp (by omega), List.getElem?_eq_getElem hi]; rfl) ?_
  refine xw_astore_n (L2 := [(3, .ref xs[i]), (2, .ref e), (0, .ref a), (1, .int (nI i))]) dJx4a65c_remove_915e3_17 rfl (by decide) rfl ?_
  refine xw_aload_n dJx4a65c_remove_915e3_18 rfl rfl ?_
  refine xw_aload_n dJx4a65c_remove_915e3_19 rfl rfl ?_
  refine xw_iload_n dJx4a65c_remove_915e3_20 rfl rfl ?_
  refine xw_callV (q2 := mJx4a65c_fastRemove_b59b0) (n2 := 2) (ci := 0) (Bs := [.ref e, .int (nI i)]) (rest := []) (ct_fastRemove (m := m) ho0 hr0 (by omega) (by omega) hc hci hc0 hcast (fun j y hj hy => by obtain ⟨vs, h⟩ := hel y (List.mem_of_getElem? hy); exact ⟨vs, by rw [So_qraw, if_neg (fun z => by omega)]; exact h⟩)) dJx4a65c_remove_915e3_21 rfl (o_at ho0) rfl rfl tw_404 tw_406 tw_5 tw_43 tw_407 (by decide +kernel) rfl (Nat.le_of_ble_eq_true rfl) (Nat.le_of_ble_eq_true rfl) (Nat.le_of_ble_eq_true rfl) (fun rr M1 hr hle1 => ?_)
  obtain ⟨rfl, rfl⟩ := hr
  refine xw_view (M2 := qput M a (some (xs.eraseIdx i, cap, e, mc + 1))) (fun _ => hw2) (by simp only [Sz_oput, Sz_iput, Sz_jput, Sz_rput, Sz_qput, Sz_kput, Sz_grow, Sz_qraw]) (by simp only [Sl_oput, Sl_iput, Sl_jput, Sl_rput, Sl_qput, Sl_kput, Sl_grow, Sl_qraw]) (fun H h => ?_) ?_
  · refine sh_qset hw hx (by simp only [Sz_oput, Sz_iput, Sz_jput, Sz_rput, Sz_qput, Sz_kput, Sz_grow, Sz_qraw]) (fun c b => ?_) (fun b => by simp only [Si_oput, Si_iput, Si_jput, Si_rput, Si_qput, Si_kput, Si_grow, Si_qraw]) (fun b => by simp only [Sj_oput, Sj_iput, Sj_jput, Sj_rput, Sj_qput, Sj_kput, Sj_grow, Sj_qraw]) (fun c b y hy => ?_) (fun b hb => by simp only [Sq_oput, Sq_iput, Sq_jput, Sq_rput, Sq_qput, Sq_kput, Sq_grow, Sq_qraw, if_neg hb]) (fun _ => ?_) hw2 h
    · rw [So_oput, So_rput, So_qraw]
      by_cases hz : c = 0 ∧ b = a
      · rw [if_pos hz, if_pos hz]
        have e1 : (xs.eraseIdx i).length = m := by rw [List.length_eraseIdx_of_lt hi]; omega
        simp only [qobj, if_neg hc1, e1]
      · rw [if_neg hz, if_neg hz, if_neg hz]
    · have e1 := hw.2.2.2.1 c b y hy
      rw [Sr_oput, Sr_rput, if_neg (fun z => ?_), Sr_qraw, if_neg (fun z => ?_)]
      · exact hy
      · rw [z.2.2, (k4 z.1).1] at e1
        omega
      · rw [z.2, (k4 (by omega)).1] at e1
        omega
    · refine ⟨_, by rw [Sr_oput, Sr_rput, if_pos ⟨rfl, rfl⟩], fun j hj => ?_⟩
      show va_up (if i < m then va_cpy (fun j => xs[j]?) (fun j => xs[j]?) (i + 1) i (m - i) else fun j => xs[j]?) m none j = (xs.eraseIdx i)[j]?
      rw [List.getElem?_eraseIdx]
      by_cases h1 : j = m
      · subst h1
        rw [va_up_self, if_neg (by omega), List.getElem?_eq_none (by omega)]
      · rw [va_up_ne _ _ h1]
        by_cases h2 : i < m
        · rw [if_pos h2]
          by_cases h3 : j < i
          · rw [if_pos h3, pk_cpy_out (by omega)]
          · rw [if_neg h3]
            by_cases h4 : j < m
            · rw [pk_cpy_in (by omega) (by omega)]
              show xs[i + 1 + (j - i)]? = _
              rw [show i + 1 + (j - i) = j + 1 by omega]
            · rw [pk_cpy_out (by omega), List.getElem?_eq_none (by omega), List.getElem?_eq_none (by omega)]
        · rw [if_neg h2]
          by_cases h3 : j < i
          · rw [if_pos h3]
          · rw [if_neg h3, List.getElem?_eq_none (by omega), List.getElem?_eq_none (by omega)]
  refine xw_aload_n dJx4a65c_remove_915e3_24 rfl rfl ?_
  exact xw_aret rfl (Or.inl ⟨_, rfl⟩) (Or.inr ⟨_, rfl⟩) dJx4a65c_remove_915e3_25 ⟨rfl, rfl⟩
theorem ct_lclear {x : List Nat × Nat × Nat × Int32} (hx : Sq M a = some x) (hc : x.2.1 ≤ 20000001) :
    CT G 0 0 mJx4a65c_clear_da8c8 [.ref a] M (fun r M1 => r = none ∧ M1 = qput M a (some ([], x.2.1, x.2.2.1, x.2.2.2 + 1))) := by
  refine ct_wf fun hw => ?_
  obtain ⟨k1, k2, k3, k4⟩ := hw.2.2.2.2 a x hx
  obtain ⟨xs, cap, e, mc⟩ := x
  simp only at k3 k4 hc
  obtain ⟨eE, heE⟩ : ∃ eE, eE = (if cap = 0 then gE G else e) := ⟨_, rfl⟩
  have ho0 : So (qraw G M a (xs, cap, e, mc)) 0 a = some [.int mc, .ref eE, .int (nI xs.length)] := by rw [So_qself, qobj, heE]
  have ho1 : So (oput (qraw G M a (xs, cap, e, mc)) 0 a (some [.int (mc + 1), .ref eE, .int (nI xs.length)])) 0 a = some [.int (mc + 1), .ref eE, .int (nI xs.length)] := by rw [So_oput, if_pos ⟨rfl, rfl⟩]
  have hw2 : Wf (qput M a (some ([], cap, e, mc + 1))) := wf_qset hw hx (Nat.zero_le _) k4
  obtain ⟨Mb, hMb⟩ : ∃ Mb, Mb = oput (oput (qraw G M a (xs, cap, e, mc)) 0 a (some [.int (mc + 1), .ref eE, .int (nI xs.length)])) 0 a (some [.int (mc + 1), .ref eE, .int 0]) := ⟨_, rfl⟩
  have hz0 : ∀ H g, (0 < cap → g = fun (_ : Nat) => (none : Option Nat)) → Sh G (if cap = 0 then Mb else rput Mb 2 e (some (cap, g))) H → Sh G (qput M a (some ([], cap, e, mc + 1))) H := by
    intro H g hg h
    refine sh_qset hw hx ?_ (fun c b => ?_) (fun b => ?_) (fun b => ?_) (fun c b y hy => ?_) (fun b hb => ?_) (fun hcp => ?_) hw2 h
    · subst hMb; split <;> simp only [Sz_oput, Sz_iput, Sz_jput, Sz_rput, Sz_qput, Sz_kput, Sz_grow, Sz_qraw]
    · have e1 : So (if cap = 0 then Mb else rput Mb 2 e (some (cap, g))) c b = So Mb c b := by split <;> rfl
      rw [e1, hMb, So_oput, So_oput, So_qraw]
      by_cases hz : c = 0 ∧ b = a
      · rw [if_pos hz, if_pos hz]; simp only [qobj, heE]; rfl
      · rw [if_neg hz, if_neg hz, if_neg hz, if_neg hz]
    · subst hMb; split <;> simp only [Si_oput, Si_iput, Si_jput, Si_rput, Si_qput, Si_kput, Si_grow, Si_qraw]
    · subst hMb; split <;> simp only [Sj_oput, Sj_iput, Sj_jput, Sj_rput, Sj_qput, Sj_kput, Sj_grow, Sj_qraw]
    · have e1 := hw.2.2.2.1 c b y hy
      have e2 : Sr Mb c b = some y := by
        rw [hMb, Sr_oput, Sr_oput, Sr_qraw, if_neg (fun z => ?_)]
        · exact hy
        · rw [z.2.2, (k4 z.1).1] at e1
          omega
      by_cases h0 : cap = 0
      · rw [if_pos h0]; exact e2
      · rw [if_neg h0, Sr_rput, if_neg (fun z => ?_)]
        · exact e2
        · rw [z.2, (k4 (by omega)).1] at e1
          omega
    · have e1 : Sq (if cap = 0 then Mb else rput Mb 2 e (some (cap, g))) b = Sq Mb b := by split <;> rfl
      rw [e1, hMb]; simp only [Sq_oput, Sq_iput, Sq_jput, Sq_rput, Sq_qput, Sq_kput, Sq_grow, Sq_qraw, if_neg hb]
    · have hcp' : 0 < cap := hcp
      refine ⟨g, ?_, fun j hj => ?_⟩
      · show Sr (if cap = 0 then Mb else rput Mb 2 e (some (cap, g))) 2 e = _
        rw [if_neg (by omega), Sr_rput, if_pos ⟨rfl, rfl⟩]
      · rw [hg hcp']; rfl
  refine ct_go (by decide +kernel) (Nat.le_of_ble_eq_true rfl) (L := [(0, .ref a)]) rfl (xw_open hx ?_)
  refine xw_aload_n dJx4a65c_clear_da8c8_0 rfl rfl ?_
  refine xw_dup dJx4a65c_clear_da8c8_1 rfl ?_
  refine xw_get (ci := 0) (k := 0) (v := .int mc) dJx4a65c_clear_da8c8_2 ho0 rfl inJx4a65c (by decide) tw_107 (Or.inr tw_sf) rfl ?_
  refine xw_iconst (v := 1) dJx4a65c_clear_da8c8_5 (by decide) ?_
  refine xw_iadd dJx4a65c_clear_da8c8_6 ?_
  refine xw_put (ci := 0) (k := 0) tyJx4a65c dJx4a65c_clear_da8c8_7 ho0 rfl inJx4a65c tyJx4a65c_ok nmJx4a65c (by decide) tw_107 (Or.inr tw_sf) rfl rfl rfl rfl (Nat.le_of_ble_eq_true rfl) ?_
  dsimp only [List.set]
  refine xw_aload_n dJx4a65c_clear_da8c8_10 rfl rfl ?_
  refine xw_pc (pc2 := 11) rfl ?_
  refine xw_get (ci := 0) (k := 1) (v := .ref eE) dJx4a65c_clear_da8c8_11 ho1 rfl inJx4a65c (by decide) tw_104 (Or.inl rfl) rfl ?_
  refine xw_astore_n (L2 := [(1, .ref eE), (0, .ref a)]) dJx4a65c_clear_da8c8_14 rfl (by decide) rfl ?_
  refine xw_aload_n dJx4a65c_clear_da8c8_15 rfl rfl ?_
  refine xw_get (ci := 0) (k := 2) (v := .int (nI xs.length)) dJx4a65c_clear_da8c8_16 ho1 rfl inJx4a65c (by decide) tw_105 (Or.inl rfl) rfl ?_
  refine xw_istore_n (L2 := [(2, .int (nI xs.length)), (1, .ref eE), (0, .ref a)]) dJx4a65c_clear_da8c8_19 rfl (by decide) rfl ?_
  refine xw_aload_n dJx4a65c_clear_da8c8_20 rfl rfl ?_
  refine xw_iconst (v := 0) dJx4a65c_clear_da8c8_21 (by decide) ?_
  refine xw_dup_x1 dJx4a65c_clear_da8c8_22 rfl rfl ?_
  refine xw_put (ci := 0) (k := 2) tyJx4a65c dJx4a65c_clear_da8c8_23 ho1 rfl inJx4a65c tyJx4a65c_ok nmJx4a65c (by decide) tw_105 (Or.inl rfl) rfl rfl rfl rfl (Nat.le_of_ble_eq_true rfl) ?_
  dsimp only [List.set]
  refine xw_istore_n (L2 := [(3, .int 0), (2, .int (nI xs.length)), (1, .ref eE), (0, .ref a)]) dJx4a65c_clear_da8c8_26 rfl (by decide) rfl ?_
  by_cases h0 : cap = 0
  · have hl0 : xs = [] := List.length_eq_zero_iff.mp (by omega)
    have hle : nI xs.length ≤ 0 := by rw [hl0]; decide +kernel
    refine xw_iload_n dJx4a65c_clear_da8c8_27 rfl rfl ?_
    refine xw_iload_n dJx4a65c_clear_da8c8_28 rfl rfl ?_
    refine xw_icmp_ge (tgt := 42) dJx4a65c_clear_da8c8_29 (by decide) (fun _ => ?_) (fun zz => absurd hle zz)
    refine xw_view (M2 := qput M a (some ([], cap, e, mc + 1))) (fun _ => hw2) (by simp only [Sz_oput, Sz_iput, Sz_jput, Sz_rput, Sz_qput, Sz_kput, Sz_grow, Sz_qraw]) (by simp only [Sl_oput, Sl_iput, Sl_jput, Sl_rput, Sl_qput, Sl_kput, Sl_grow, Sl_qraw]) (fun H h => hz0 H (fun _ => none) (fun _ => rfl) (by rw [if_pos h0, hMb]; exact h)) ?_
    exact xw_vret rfl dJx4a65c_clear_da8c8_42 ⟨rfl, rfl⟩
  · have hee : eE = e := by rw [heE, if_neg h0]
    subst hee
    have hr0 : Sr (qraw G M a (xs, cap, eE, mc)) 2 eE = some (cap, fun j => xs[j]?) := Sr_qself (x := (xs, cap, eE, mc)) (show 0 < cap by omega)
    have loop : ∀ (k i : Nat) (g : Nat → Option Nat), i + k = xs.length → (∀ j, j < i → g j = none) → (∀ j, xs.length ≤ j → g j = none) → XW G 0 0 mJx4a65c_clear_da8c8 [.ref a] M (fun r M1 => r = none ∧ M1 = qput M a (some ([], cap, eE, mc + 1))) (rput Mb 2 eE (some (cap, g))) 27 [(3, .int (nI i)), (2, .int (nI xs.length)), (1, .ref eE), (0, .ref a)] [] := by
      intro k
      induction k with
      | zero =>
        intro i g hik h1 h2
        refine xw_iload_n dJx4a65c_clear_da8c8_27 rfl rfl ?_
        refine xw_iload_n dJx4a65c_clear_da8c8_28 rfl rfl ?_
        refine xw_icmp_ge (tgt := 42) dJx4a65c_clear_da8c8_29 (by decide) (fun _ => ?_) (fun zz => absurd (nI_le (show xs.length ≤ i by omega) (by omega)) zz)
        have hg : g = fun _ => none := funext fun j => by
          by_cases h : j < i
          · exact h1 j h
          · exact h2 j (by omega)
        refine xw_view (M2 := qput M a (some ([], cap, eE, mc + 1))) (fun _ => hw2) (by rw [hMb]; simp only [Sz_oput, Sz_iput, Sz_jput, Sz_rput, Sz_qput, Sz_kput, Sz_grow, Sz_qraw]) (by rw [hMb]; simp only [Sl_oput, Sl_iput, Sl_jput, Sl_rput, Sl_qput, Sl_kput, Sl_grow, Sl_qraw]) (fun H h => hz0 H g (fun _ => hg) (by rw [if_neg h0]; exact h)) ?_
        exact xw_vret rfl dJx4a65c_clear_da8c8_42 ⟨rfl, rfl⟩
      | succ k ih =>
        intro i g hik h1 h2
        refine xw_iload_n dJx4a65c_clear_da8c8_27 rfl rfl ?_
        refine xw_iload_n dJx4a65c_clear_da8c8_28 rfl rfl ?_
        refine xw_pc (pc2 := 29) rfl ?_
        refine xw_icmp_ge (tgt := 42) dJx4a65c_clear_da8c8_29 (by decide) (fun zz => absurd zz (fun z => absurd ((nI_leI (by omega) (by omega)).mp z) (by omega))) (fun _ => ?_)
        refine xw_aload_n dJx4a65c_clear_da8c8_32 rfl rfl ?_
        refine xw_iload_n dJx4a65c_clear_da8c8_33 rfl rfl ?_
        refine xw_null dJx4a65c_clear_da8c8_34 ?_
        refine xw_aastN dJx4a65c_clear_da8c8_35 (show Sr (rput Mb 2 eE (some (cap, g))) 2 eE = some (cap, g) by rw [Sr_rput, if_pos ⟨rfl, rfl⟩]) (vp_in_nI (show i < cap by omega) (by omega)) ?_
        rw [nI_clamp (show i < 2 ^ 31 by omega)]
        refine xw_iinc (v := (nI i) + 1) (L2 := [(3, .int ((nI i) + 1)), (2, .int (nI xs.length)), (1, .ref eE), (0, .ref a)]) dJx4a65c_clear_da8c8_36 rfl rfl (by decide) rfl ?_
        refine xw_goto (tgt := 27) dJx4a65c_clear_da8c8_39 (by decide) ?_
        have ee : rput (rput Mb 2 eE (some (cap, g))) 2 eE (some (cap, va_up g i none)) = rput Mb 2 eE (some (cap, va_up g i none)) := rput_rput _ _ _ _ _
        rw [ee, nI_1]
        refine ih (i + 1) (va_up g i none) (by omega) (fun j hj => ?_) (fun j hj => ?_)
        · by_cases h : j = i
          · subst h; exact va_up_self _ _ _
          · rw [va_up_ne _ _ h]; exact h1 j (by omega)
        · rw [va_up_ne _ _ (by omega)]; exact h2 j hj
    have e0 : rput Mb 2 eE (some (cap, fun j => xs[j]?)) = Mb := by
      refine hx_ext (Sz_rput _ _ _ _) (Sl_rput _ _ _ _) (fun b => Sk_rput _ _ _ _ b) (fun c b => So_rput _ _ _ _ c b) (fun b => Si_rput _ _ _ _ b) (fun b => Sj_rput _ _ _ _ b) (fun c b => ?_) (fun b => Sq_rput _ _ _ _ b)
      rw [Sr_rput]
      by_cases hz : c = 2 ∧ b = eE
      · rw [if_pos hz, hz.1, hz.2, hMb]; exact hr0.symm
      · rw [if_neg hz]
    have l0 := loop xs.length 0 (fun j => xs[j]?) (by omega) (fun j hj => by omega) (fun j hj => List.getElem?_eq_none hj)
    rw [e0, hMb, nI_0] at l0
    exact xw_pc rfl l0
end J4
