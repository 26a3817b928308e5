/-! ARRAYLIST, what reads -/
section J1
variable {G : hx_G} {M : hx_S} {a i n : Nat} {x : List Nat × Nat × Nat × Int32}
theorem ct_chk3 (h : i < n) (hn : n < 2 ^ 31) : CT G 0 0 mJ3_checkIndex_8e157 [.int (nI i), .int (nI n), .null] M (fun r M1 => r = some (.int (nI i)) ∧ M1 = M) := by
  refine ct_go (by decide +kernel) (Nat.le_of_ble_eq_true rfl) (L := [(0, .int (nI i)), (1, .int (nI n)), (2, .null)]) rfl ?_
  refine xw_iload_n dJ3_checkIndex_8e157_0 rfl rfl ?_
  refine xw_if_lt (tgt := 9) dJ3_checkIndex_8e157_1 (by decide) (fun zz => absurd zz (nI_pos (by omega))) (fun _ => ?_)
  refine xw_iload_n dJ3_checkIndex_8e157_4 rfl rfl ?_
  refine xw_iload_n dJ3_checkIndex_8e157_5 rfl rfl ?_
  refine xw_icmp_lt (tgt := 16) dJ3_checkIndex_8e157_6 (by decide) (fun _ => ?_) (fun zz => absurd (nI_lt h hn) zz)
  refine xw_iload_n dJ3_checkIndex_8e157_16 rfl rfl ?_
  exact xw_iret rfl dJ3_checkIndex_8e157_17 ⟨rfl, rfl⟩
theorem ct_chk (h : i < n) (hn : n < 2 ^ 31) : CT G 1 22 mJ15_checkIndex_7cf53 [.int (nI i), .int (nI n)] M (fun r M1 => r = some (.int (nI i)) ∧ M1 = M) := by
  refine ct_go (by decide +kernel) (Nat.le_of_ble_eq_true rfl) (L := [(0, .int (nI i)), (1, .int (nI n))]) rfl ?_
  refine xw_iload_n dJ15_checkIndex_7cf53_0 rfl rfl ?_
  refine xw_iload_n dJ15_checkIndex_7cf53_1 rfl rfl ?_
  refine xw_null dJ15_checkIndex_7cf53_2 ?_
  refine xw_callS (q2 := mJ3_checkIndex_8e157) (n2 := 3) (Bs := [.int (nI i), .int (nI n), .null]) (rest := []) (ct_chk3 h hn) dJ15_checkIndex_7cf53_3 rfl tw_239 tw_240 tw_59 tw_241 (by decide +kernel) rfl (Nat.le_of_ble_eq_true rfl) (Nat.le_of_ble_eq_true rfl) (Nat.le_of_ble_eq_true rfl) (fun rr M1 hr hle1 => ?_)
  obtain ⟨rfl, hM1⟩ := hr
  obtain rfl := hM1.symm
  exact xw_iret rfl dJ15_checkIndex_7cf53_6 ⟨rfl, rfl⟩
theorem ct_size (hx : Sq M a = some x) : CT G 0 0 mJx4a65c_size_8abf5 [.ref a] M (fun r M1 => r = some (.int (nI x.1.length)) ∧ M1 = M) := by
  refine ct_wf fun hw => ct_go (by decide +kernel) (Nat.le_of_ble_eq_true rfl) (L := [(0, .ref a)]) rfl (xw_open hx ?_)
  refine xw_aload_n dJx4a65c_size_8abf5_0 rfl rfl ?_
  refine xw_get (ci := 0) (k := 2) (v := .int (nI x.1.length)) dJx4a65c_size_8abf5_1 So_qself rfl inJx4a65c (by decide) tw_105 (Or.inl rfl) rfl ?_
  refine xw_shut hw hx ?_
  exact xw_iret rfl dJx4a65c_size_8abf5_4 ⟨rfl, rfl⟩
theorem ct_isEmpty (hx : Sq M a = some x) (hn : x.1.length < 2 ^ 31) : CT G 0 0 mJx4a65c_isEmpty_aae02 [.ref a] M (fun r M1 => r = some (.int (if x.1 = [] then 1 else 0)) ∧ M1 = M) := by
  refine ct_wf fun hw => ct_go (by decide +kernel) (Nat.le_of_ble_eq_true rfl) (L := [(0, .ref a)]) rfl (xw_open hx ?_)
  refine xw_aload_n dJx4a65c_isEmpty_aae02_0 rfl rfl ?_
  refine xw_get (ci := 0) (k := 2) (v := .int (nI x.1.length)) dJx4a65c_isEmpty_aae02_1 So_qself rfl inJx4a65c (by decide) tw_105 (Or.inl rfl) rfl ?_
  refine xw_shut hw hx ?_
  refine xw_if_ne (tgt := 11) dJx4a65c_isEmpty_aae02_4 (by decide) (fun c1 => ?_) (fun c1 => ?_)
  · have hne : x.1 ≠ [] := fun z => c1 (by rw [z]; decide +kernel)
    refine xw_iconst (v := 0) dJx4a65c_isEmpty_aae02_11 (by decide) ?_
    exact xw_zret rfl (by rfl) dJx4a65c_isEmpty_aae02_12 ⟨by rw [if_neg hne], rfl⟩
  · have hne : x.1 = [] := by
      cases hl : x.1 with
      | nil => rfl
      | cons y ys =>
        rw [hl] at c1 hn
        exact absurd c1 (nI_ne0 (by simp) hn)
    refine xw_iconst (v := 1) dJx4a65c_isEmpty_aae02_7 (by decide) ?_
    refine xw_goto (tgt := 12) dJx4a65c_isEmpty_aae02_8 (by decide) ?_
    exact xw_zret rfl (by rfl) dJx4a65c_isEmpty_aae02_12 ⟨by rw [if_pos hne], rfl⟩
/-- elementData(i), of a list that is open -/
theorem ct_elem {e cap : Nat} {mc nn : Int32} {f : Nat → Option Nat} {v : Nat} (ho : So M 0 a = some [.int mc, .ref e, .int nn]) (hr : Sr M 2 e = some (cap, f)) (hi : i < cap) (hc : cap < 2 ^ 31) (hv : f i = some v) : CT G 0 0 mJx4a65c_elementData_915e3 [.ref a, .int (nI i)] M (fun r M1 => r = some (.ref v) ∧ M1 = M) := by
  refine ct_go (by decide +kernel) (Nat.le_of_ble_eq_true rfl) (L := [(0, .ref a), (1, .int (nI i))]) rfl ?_
  refine xw_aload_n dJx4a65c_elementData_915e3_0 rfl rfl ?_
  refine xw_pc (pc2 := 1) rfl ?_
  refine xw_get (ci := 0) (k := 1) (v := .ref e) dJx4a65c_elementData_915e3_1 ho rfl inJx4a65c (by decide) tw_104 (Or.inl rfl) rfl ?_
  refine xw_iload_n dJx4a65c_elementData_915e3_4 rfl rfl ?_
  refine xw_aald (v := .ref v) dJx4a65c_elementData_915e3_5 hr (vp_in_nI hi hc) (by rw [nI_clamp (by omega), hv]; rfl) ?_
  exact xw_aret rfl (Or.inl ⟨_, rfl⟩) (Or.inr ⟨_, rfl⟩) dJx4a65c_elementData_915e3_6 ⟨rfl, rfl⟩
theorem ct_get (hx : Sq M a = some x) (hi : i < x.1.length) (hc : x.2.1 < 2 ^ 31) : CT G 2 43 mJx4a65c_get_915e3 [.ref a, .int (nI i)] M (fun r M1 => r = some (.ref x.1[i]) ∧ M1 = M) := by
  refine ct_wf fun hw => ct_go (by decide +kernel) (Nat.le_of_ble_eq_true rfl) (L := [(0, .ref a), (1, .int (nI i))]) rfl (xw_open hx ?_)
  have hle : x.1.length ≤ x.2.1 := (hw.2.2.2.2 a x hx).2.2.1
  have hc0 : ¬ x.2.1 = 0 := by omega
  have ho : So (qraw G M a x) 0 a = some [.int x.2.2.2, .ref x.2.2.1, .int (nI x.1.length)] := by rw [So_qself, qobj, if_neg hc0]
  refine xw_iload_n dJx4a65c_get_915e3_0 rfl rfl ?_
  refine xw_aload_n dJx4a65c_get_915e3_1 rfl rfl ?_
  refine xw_get (ci := 0) (k := 2) (v := .int (nI x.1.length)) dJx4a65c_get_915e3_2 ho rfl inJx4a65c (by decide) tw_105 (Or.inl rfl) rfl ?_
  refine xw_callS (q2 := mJ15_checkIndex_7cf53) (n2 := 2) (Bs := [.int (nI i), .int (nI x.1.length)]) (rest := []) (ct_chk hi (by omega)) dJx4a65c_get_915e3_5 rfl tw_236 tw_237 tw_58 tw_238 (by decide +kernel) rfl (Nat.le_of_ble_eq_true rfl) (Nat.le_of_ble_eq_true rfl) (Nat.le_of_ble_eq_true rfl) (fun rr M1 hr hle1 => ?_)
  obtain ⟨rfl, rfl⟩ := hr
  refine xw_pop dJx4a65c_get_915e3_8 rfl ?_
  refine xw_aload_n dJx4a65c_get_915e3_9 rfl rfl ?_
  refine xw_iload_n dJx4a65c_get_915e3_10 rfl rfl ?_
  refine xw_callV (q2 := mJx4a65c_elementData_915e3) (n2 := 1) (ci := 0) (Bs := [.int (nI i)]) (rest := []) (ct_elem (v := x.1[i]) ho (Sr_qself (by omega)) (Nat.lt_of_lt_of_le hi hle) hc (List.getElem?_eq_getElem hi)) dJx4a65c_get_915e3_11 rfl (o_at ho) rfl rfl tw_242 tw_243 tw_244 tw_43 tw_245 (by decide +kernel) rfl (Nat.le_of_ble_eq_true rfl) (Nat.le_of_ble_eq_true rfl) (Nat.le_of_ble_eq_true rfl) (fun rr M1 hr hle1 => ?_)
  obtain ⟨rfl, rfl⟩ := hr
  refine xw_shut hw hx ?_
  exact xw_aret rfl (Or.inl ⟨_, rfl⟩) (Or.inr ⟨_, rfl⟩) dJx4a65c_get_915e3_14 ⟨rfl, rfl⟩
end J1
