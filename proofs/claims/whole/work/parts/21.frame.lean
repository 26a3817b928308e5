/-! THE CLASS: a frame, the frames, constructors of Contexts and Cells -/
/-- what three places hold -/
def v3 (x y z : Option Nat) : Nat → Option Nat := fun j => if j = 0 then x else if j = 1 then y else if j = 2 then z else none
theorem v3_0 (x y z u : Option Nat) : va_up (v3 x y z) 0 u = v3 u y z := by
  funext j; unfold v3 va_up; split <;> simp_all
theorem v3_1 (x y z u : Option Nat) : va_up (v3 x y z) 1 u = v3 x u z := by
  funext j; unfold v3 va_up; by_cases h : j = 1 <;> simp_all
theorem v3_2 (x y z u : Option Nat) : va_up (v3 x y z) 2 u = v3 x y u := by
  funext j; unfold v3 va_up; by_cases h : j = 2 <;> simp_all
theorem v3_none : (fun _ => none) = v3 none none none := by
  funext j; unfold v3; split <;> simp_all
/-- new arrays -/
def ni (M : hx_S) (n : Nat) : hx_S := iput (grow M n 20) (Sz M) (some (n, fun _ => 0))
def nj (M : hx_S) (n : Nat) : hx_S := jput (grow M n 21) (Sz M) (some (n, fun _ => 0))
def nr (M : hx_S) (k n : Nat) (f : Nat → Option Nat) : hx_S := rput (grow M n (22 + k)) k (Sz M) (some (n, f))
section C2
variable {G : hx_G} {M : hx_S} {a : Nat}
theorem ni_oput (n c b : Nat) (x : Option (List Value)) : ni (oput M c b x) n = oput (ni M n) c b x := rfl
theorem nr_oput (k n c b : Nat) (f : Nat → Option Nat) (x : Option (List Value)) : nr (oput M c b x) k n f = oput (nr M k n f) c b x := rfl
theorem ct_Frame {no nd : Nat} {c : Int32} {f1 f2 f3 f4 f5 : Value} {vs : List Value} (ho : So M 5 a = some [f1, f2, f3, f4, f5]) (hv : So M 9 no = some vs) : CT G 1 20 mX4_init [.ref a, .ref no, .ref nd, .int c] M (fun r M1 => r = none ∧ M1 = oput (nr M 1 3 (v3 (some no) (some no) (some no))) 5 a (some [.ref no, .ref (Sz M), .ref nd, .int c, f5])) := by
  refine ct_go (by decide +kernel) (Nat.le_of_ble_eq_true rfl) (L := [(0, .ref a), (1, .ref no), (2, .ref nd), (3, .int c)]) rfl ?_
  refine xw_aload_n dX4_init_0 rfl rfl ?_
  refine xw_obj dX4_init_1 tw_372 tw_71 tw_72 (Nat.le_of_ble_eq_true rfl) (Nat.le_of_ble_eq_true rfl) ?_
  refine xw_aload_n dX4_init_4 rfl rfl ?_
  refine xw_aload_n dX4_init_5 rfl rfl ?_
  refine xw_putF (ci := 5) (k := 0) tyX4 dX4_init_6 ho rfl inX4 tyX4_ok nmX4 (by decide) tw_375 (Or.inl rfl) rfl rfl rfl rfl rfl rfl (Nat.le_of_ble_eq_true rfl) ?_
  dsimp only [List.set]
  refine xw_aload_n dX4_init_9 rfl rfl ?_
  refine xw_iconst (v := 3) dX4_init_10 (by decide) ?_
  refine xw_newR (k := 1) (by decide) tw_373 dX4_init_11 (N := 3) (by decide) (by decide) (by decide) ?_
  simp only [Sz_oput]
  refine Eq.mp (congrArg (fun z => XW G 1 20 mX4_init [.ref a, .ref no, .ref nd, .int c] M _ z _ _ _) (show oput (nr M 1 3 (fun _ => none)) 5 a (some [.ref no, f2, f3, f4, f5]) = _ from rfl)) ?_
  refine xw_putF (ci := 5) (k := 1) tyX4 dX4_init_14 (show So (oput (nr M 1 3 (fun _ => none)) 5 a (some [.ref no, f2, f3, f4, f5])) 5 a = some [.ref no, f2, f3, f4, f5] by rw [So_oput, if_pos ⟨rfl, rfl⟩]) rfl inX4 tyX4_ok nmX4 (by decide) tw_376 (Or.inl rfl) rfl rfl rfl rfl rfl rfl (Nat.le_of_ble_eq_true rfl) ?_
  dsimp only [List.set]
  rw [oput_oput]
  refine xw_aload_n dX4_init_17 rfl rfl ?_
  refine xw_aload_n dX4_init_18 rfl rfl ?_
  refine xw_put (ci := 5) (k := 2) tyX4 dX4_init_19 (show So _ 5 a = some [.ref no, .ref (Sz M), f3, f4, f5] by rw [So_oput, if_pos ⟨rfl, rfl⟩]) rfl inX4 tyX4_ok nmX4 (by decide) tw_378 (Or.inl rfl) rfl rfl rfl rfl (Nat.le_of_ble_eq_true rfl) ?_
  dsimp only [List.set]
  rw [oput_oput]
  refine xw_aload_n dX4_init_22 rfl rfl ?_
  refine xw_iload_n dX4_init_23 rfl rfl ?_
  refine xw_put (ci := 5) (k := 3) tyX4 dX4_init_24 (show So _ 5 a = some [.ref no, .ref (Sz M), .ref nd, f4, f5] by rw [So_oput, if_pos ⟨rfl, rfl⟩]) rfl inX4 tyX4_ok nmX4 (by decide) tw_381 (Or.inl rfl) rfl rfl rfl rfl (Nat.le_of_ble_eq_true rfl) ?_
  dsimp only [List.set]
  rw [oput_oput]
  have hfin : ∀ g, So (oput (nr M 1 3 g) 5 a (some [.ref no, .ref (Sz M), .ref nd, .int c, f5])) 5 a = some [.ref no, .ref (Sz M), .ref nd, .int c, f5] := fun g => by rw [So_oput, if_pos ⟨rfl, rfl⟩]
  have har : ∀ g, Sr (oput (nr M 1 3 g) 5 a (some [.ref no, .ref (Sz M), .ref nd, .int c, f5])) 1 (Sz M) = some (3, g) := fun g => by rw [Sr_oput]; unfold nr; rw [Sr_rput, if_pos ⟨rfl, rfl⟩]
  have hva : ∀ g, So (oput (nr M 1 3 g) 5 a (some [.ref no, .ref (Sz M), .ref nd, .int c, f5])) 9 no = some vs := fun g => by rw [So_oput, if_neg (fun z => absurd z.1 (by decide))]; exact hv
  have hst : ∀ g h, rput (oput (nr M 1 3 g) 5 a (some [.ref no, .ref (Sz M), .ref nd, .int c, f5])) 1 (Sz M) (some (3, h)) = oput (nr M 1 3 h) 5 a (some [.ref no, .ref (Sz M), .ref nd, .int c, f5]) := fun g h => by
    rw [← oput_rput]; unfold nr; rw [rput_rput]
  refine xw_iconst (v := 0) dX4_init_27 (by decide) ?_
  refine xw_istore (L2 := [(4, .int 0), (0, .ref a), (1, .ref no), (2, .ref nd), (3, .int c)]) dX4_init_28 (by decide) rfl ?_
  refine xw_iload dX4_init_30 rfl ?_
  refine xw_iconst (v := 3) dX4_init_32 (by decide) ?_
  refine xw_pc (pc2 := 33) rfl ?_
  refine xw_icmp_ge (tgt := 50) dX4_init_33 (by decide) (fun zz => absurd zz (by decide)) (fun _ => ?_)
  refine xw_aload_n dX4_init_36 rfl rfl ?_
  refine xw_get (ci := 5) (k := 1) (v := .ref (Sz M)) dX4_init_37 (hfin _) rfl inX4 (by decide) tw_376 (Or.inl rfl) rfl ?_
  refine xw_iload dX4_init_40 rfl ?_
  refine xw_aload_n dX4_init_42 rfl rfl ?_
  refine xw_aast dX4_init_43 (har _) (by unfold vp_in; decide) (hva _) rfl (fit_same (ci := 9) rfl rfl) ?_
  rw [hst, show (0 : Int32).toNatClampNeg = 0 by decide]
  refine xw_iinc (v := 0 + 1) (L2 := [(4, .int (0 + 1)), (0, .ref a), (1, .ref no), (2, .ref nd), (3, .int c)]) dX4_init_44 rfl rfl (by decide) rfl ?_
  refine xw_goto (tgt := 30) dX4_init_47 (by decide) ?_
  refine xw_iload dX4_init_30 rfl ?_
  refine xw_iconst (v := 3) dX4_init_32 (by decide) ?_
  refine xw_icmp_ge (tgt := 50) dX4_init_33 (by decide) (fun zz => absurd zz (by decide)) (fun _ => ?_)
  refine xw_aload_n dX4_init_36 rfl rfl ?_
  refine xw_get (ci := 5) (k := 1) (v := .ref (Sz M)) dX4_init_37 (hfin _) rfl inX4 (by decide) tw_376 (Or.inl rfl) rfl ?_
  refine xw_iload dX4_init_40 rfl ?_
  refine xw_aload_n dX4_init_42 rfl rfl ?_
  refine xw_aast dX4_init_43 (har _) (by unfold vp_in; decide) (hva _) rfl (fit_same (ci := 9) rfl rfl) ?_
  rw [hst, show ((0 : Int32) + 1).toNatClampNeg = 1 by decide]
  refine xw_iinc (v := (0 + 1) + 1) (L2 := [(4, .int ((0 + 1) + 1)), (0, .ref a), (1, .ref no), (2, .ref nd), (3, .int c)]) dX4_init_44 rfl rfl (by decide) rfl ?_
  refine xw_goto (tgt := 30) dX4_init_47 (by decide) ?_
  refine xw_iload dX4_init_30 rfl ?_
  refine xw_iconst (v := 3) dX4_init_32 (by decide) ?_
  refine xw_pc (pc2 := 33) rfl ?_
  refine xw_icmp_ge (tgt := 50) dX4_init_33 (by decide) (fun zz => absurd zz (by decide)) (fun _ => ?_)
  refine xw_aload_n dX4_init_36 rfl rfl ?_
  refine xw_get (ci := 5) (k := 1) (v := .ref (Sz M)) dX4_init_37 (hfin _) rfl inX4 (by decide) tw_376 (Or.inl rfl) rfl ?_
  refine xw_iload dX4_init_40 rfl ?_
  refine xw_aload_n dX4_init_42 rfl rfl ?_
  refine xw_aast dX4_init_43 (har _) (by unfold vp_in; decide) (hva _) rfl (fit_same (ci := 9) rfl rfl) ?_
  rw [hst, show ((0 : Int32) + 1 + 1).toNatClampNeg = 2 by decide]
  refine xw_iinc (v := ((0 + 1) + 1) + 1) (L2 := [(4, .int (((0 + 1) + 1) + 1)), (0, .ref a), (1, .ref no), (2, .ref nd), (3, .int c)]) dX4_init_44 rfl rfl (by decide) rfl ?_
  refine xw_goto (tgt := 30) dX4_init_47 (by decide) ?_
  refine xw_iload dX4_init_30 rfl ?_
  refine xw_iconst (v := 3) dX4_init_32 (by decide) ?_
  refine xw_icmp_ge (tgt := 50) dX4_init_33 (by decide) (fun _ => ?_) (fun zz => absurd (by decide) zz)
  exact xw_vret rfl dX4_init_50 ⟨rfl, by rw [v3_none, v3_0, v3_1, v3_2]⟩
theorem ct_holds {va p w : Nat} {u x1 x2 x3 n : Value} {f : Nat → Option Nat} {k : Int32} (ho : So M 5 a = some [u, .ref va, x1, x2, x3]) (hr0 : Sr M 1 va = some (3, f)) (hp : p < 3) (hw : f p = some w) (hv : So M 9 w = some [.int k, n]) : CT G 0 0 mX4_holds [.ref a, .int (nI p)] M (fun r M1 => r = some (.int (if k = 3 then 0 else 1)) ∧ M1 = M) := by
  refine ct_go (by decide +kernel) (Nat.le_of_ble_eq_true rfl) (L := [(0, .ref a), (1, .int (nI p))]) rfl ?_
  refine xw_iload_n dX4_holds_0 rfl rfl ?_
  refine xw_if_lt (tgt := 30) dX4_holds_1 (by decide) (fun zz => absurd zz (nI_pos (by omega))) (fun _ => ?_)
  refine xw_iload_n dX4_holds_4 rfl rfl ?_
  refine xw_aload_n dX4_holds_5 rfl rfl ?_
  refine xw_get (ci := 5) (k := 1) (v := .ref va) dX4_holds_6 ho rfl inX4 (by decide) tw_376 (Or.inl rfl) rfl ?_
  refine xw_rlen dX4_holds_9 hr0 ?_
  refine xw_icmp_ge (tgt := 30) dX4_holds_10 (by decide) (fun zz => absurd zz (nI_ge hp (by decide))) (fun _ => ?_)
  refine xw_aload_n dX4_holds_13 rfl rfl ?_
  refine xw_get (ci := 5) (k := 1) (v := .ref va) dX4_holds_14 ho rfl inX4 (by decide) tw_376 (Or.inl rfl) rfl ?_
  refine xw_iload_n dX4_holds_17 rfl rfl ?_
  refine xw_aald (v := .ref w) dX4_holds_18 hr0 (vp_in_nI hp (by decide)) (by rw [nI_clamp (by omega), hw]; rfl) ?_
  refine xw_get (ci := 9) (k := 0) (v := .int k) dX4_holds_19 hv rfl inX8 (by decide) tw_81 (Or.inl rfl) rfl ?_
  refine xw_iconst (v := 3) dX4_holds_22 (by decide) ?_
  refine xw_pc (pc2 := 23) rfl ?_
  refine xw_icmp_eq (tgt := 30) dX4_holds_23 (by decide) (fun c1 => ?_) (fun c1 => ?_)
  · skip
    refine xw_iconst (v := 0) dX4_holds_30 (by decide) ?_
    exact xw_zret rfl rfl dX4_holds_31 ⟨by rw [if_pos c1], rfl⟩
  · skip
    refine xw_iconst (v := 1) dX4_holds_26 (by decide) ?_
    refine xw_goto (tgt := 31) dX4_holds_27 (by decide) ?_
    exact xw_zret rfl rfl dX4_holds_31 ⟨by rw [if_neg c1], rfl⟩
theorem ct_put {va p w : Nat} {u x1 x2 : Value} {f : Nat → Option Nat} {cm : Int32} {vs : List Value} (ho : So M 5 a = some [u, .ref va, x1, x2, .int cm]) (hr0 : Sr M 1 va = some (3, f)) (hp : p < 3) (hv : So M 9 w = some vs) : CT G 0 0 mX4_put [.ref a, .int (nI p), .ref w] M (fun r M1 => r = none ∧ M1 = oput (rput M 1 va (some (3, va_up f p (some w)))) 5 a (some [u, .ref va, x1, x2, .int (cm + 1)])) := by
  refine ct_go (by decide +kernel) (Nat.le_of_ble_eq_true rfl) (L := [(0, .ref a), (1, .int (nI p)), (2, .ref w)]) rfl ?_
  refine xw_iload_n dX4_put_0 rfl rfl ?_
  refine xw_if_lt (tgt := 30) dX4_put_1 (by decide) (fun zz => absurd zz (nI_pos (by omega))) (fun _ => ?_)
  refine xw_iload_n dX4_put_4 rfl rfl ?_
  refine xw_aload_n dX4_put_5 rfl rfl ?_
  refine xw_get (ci := 5) (k := 1) (v := .ref va) dX4_put_6 ho rfl inX4 (by decide) tw_376 (Or.inl rfl) rfl ?_
  refine xw_rlen dX4_put_9 hr0 ?_
  refine xw_icmp_ge (tgt := 30) dX4_put_10 (by decide) (fun zz => absurd zz (nI_ge hp (by decide))) (fun _ => ?_)
  refine xw_aload_n dX4_put_13 rfl rfl ?_
  refine xw_get (ci := 5) (k := 1) (v := .ref va) dX4_put_14 ho rfl inX4 (by decide) tw_376 (Or.inl rfl) rfl ?_
  refine xw_iload_n dX4_put_17 rfl rfl ?_
  refine xw_aload_n dX4_put_18 rfl rfl ?_
  refine xw_aast dX4_put_19 hr0 (vp_in_nI hp (by decide)) hv rfl (fit_same (ci := 9) rfl rfl) ?_
  rw [nI_clamp (by omega)]
  refine xw_aload_n dX4_put_20 rfl rfl ?_
  refine xw_dup dX4_put_21 rfl ?_
  refine xw_get (ci := 5) (k := 4) (v := .int cm) dX4_put_22 (show So (rput M 1 va _) 5 a = some [u, .ref va, x1, x2, .int cm] from ho) rfl inX4 (by decide) tw_385 (Or.inl rfl) rfl ?_
  refine xw_iconst (v := 1) dX4_put_25 (by decide) ?_
  refine xw_iadd dX4_put_26 ?_
  refine xw_pc (pc2 := 27) rfl ?_
  refine xw_put (ci := 5) (k := 4) tyX4 dX4_put_27 (show So (rput M 1 va _) 5 a = some [u, .ref va, x1, x2, .int cm] from ho) rfl inX4 tyX4_ok nmX4 (by decide) tw_385 (Or.inl rfl) rfl rfl rfl rfl (Nat.le_of_ble_eq_true rfl) ?_
  dsimp only [List.set]
  exact xw_vret rfl dX4_put_30 ⟨rfl, rfl⟩
theorem ct_empty {va no : Nat} {x1 x2 x3 : Value} {x y z : Option Nat} {vs : List Value} (ho : So M 5 a = some [.ref no, .ref va, x1, x2, x3]) (hr0 : Sr M 1 va = some (3, v3 x y z)) (hv : So M 9 no = some vs) : CT G 0 0 mX4_empty [.ref a] M (fun r M1 => r = none ∧ M1 = oput (rput M 1 va (some (3, v3 (some no) (some no) (some no)))) 5 a (some [.ref no, .ref va, x1, x2, .int 0])) := by
  refine ct_go (by decide +kernel) (Nat.le_of_ble_eq_true rfl) (L := [(0, .ref a)]) rfl ?_
  have har : ∀ g, Sr (rput M 1 va (some (3, g))) 1 va = some (3, g) := fun g => by rw [Sr_rput, if_pos ⟨rfl, rfl⟩]
  have hfin : ∀ g, So (rput M 1 va (some (3, g))) 5 a = some [.ref no, .ref va, x1, x2, x3] := fun g => ho
  have hva : ∀ g, So (rput M 1 va (some (3, g))) 9 no = some vs := fun g => hv
  refine xw_iconst (v := 0) dX4_empty_0 (by decide) ?_
  refine xw_istore_n (L2 := [(1, .int 0), (0, .ref a)]) dX4_empty_1 rfl (by decide) rfl ?_
  refine xw_iload_n dX4_empty_2 rfl rfl ?_
  refine xw_aload_n dX4_empty_3 rfl rfl ?_
  refine xw_get (ci := 5) (k := 1) (v := .ref va) dX4_empty_4 ho rfl inX4 (by decide) tw_376 (Or.inl rfl) rfl ?_
  refine xw_rlen dX4_empty_7 hr0 ?_
  refine xw_icmp_ge (tgt := 27) dX4_empty_8 (by decide) (fun zz => absurd zz (by decide)) (fun _ => ?_)
  refine xw_aload_n dX4_empty_11 rfl rfl ?_
  refine xw_get (ci := 5) (k := 1) (v := .ref va) dX4_empty_12 ho rfl inX4 (by decide) tw_376 (Or.inl rfl) rfl ?_
  refine xw_iload_n dX4_empty_15 rfl rfl ?_
  refine xw_aload_n dX4_empty_16 rfl rfl ?_
  refine xw_get (ci := 5) (k := 0) (v := .ref no) dX4_empty_17 ho rfl inX4 (by decide) tw_375 (Or.inl rfl) rfl ?_
  refine xw_aast dX4_empty_20 hr0 (by unfold vp_in; decide) hv rfl (fit_same (ci := 9) rfl rfl) ?_
  rw [show (0 : Int32).toNatClampNeg = 0 by decide, v3_0]
  refine xw_iinc (v := 0 + 1) (L2 := [(1, .int (0 + 1)), (0, .ref a)]) dX4_empty_21 rfl rfl (by decide) rfl ?_
  refine xw_goto (tgt := 2) dX4_empty_24 (by decide) ?_
  refine xw_iload_n dX4_empty_2 rfl rfl ?_
  refine xw_aload_n dX4_empty_3 rfl rfl ?_
  refine xw_get (ci := 5) (k := 1) (v := .ref va) dX4_empty_4 (hfin _) rfl inX4 (by decide) tw_376 (Or.inl rfl) rfl ?_
  refine xw_rlen dX4_empty_7 (har _) ?_
  refine xw_icmp_ge (tgt := 27) dX4_empty_8 (by decide) (fun zz => absurd zz (by decide)) (fun _ => ?_)
  refine xw_aload_n dX4_empty_11 rfl rfl ?_
  refine xw_get (ci := 5) (k := 1) (v := .ref va) dX4_empty_12 (hfin _) rfl inX4 (by decide) tw_376 (Or.inl rfl) rfl ?_
  refine xw_iload_n dX4_empty_15 rfl rfl ?_
  refine xw_aload_n dX4_empty_16 rfl rfl ?_
  refine xw_pc (pc2 := 17) rfl ?_
  refine xw_get (ci := 5) (k := 0) (v := .ref no) dX4_empty_17 (hfin _) rfl inX4 (by decide) tw_375 (Or.inl rfl) rfl ?_
  refine xw_aast dX4_empty_20 (har _) (by unfold vp_in; decide) (hva _) rfl (fit_same (ci := 9) rfl rfl) ?_
  rw [show ((0 : Int32) + 1).toNatClampNeg = 1 by decide, v3_1, rput_rput]
  refine xw_iinc (v := (0 + 1) + 1) (L2 := [(1, .int ((0 + 1) + 1)), (0, .ref a)]) dX4_empty_21 rfl rfl (by decide) rfl ?_
  refine xw_goto (tgt := 2) dX4_empty_24 (by decide) ?_
  refine xw_iload_n dX4_empty_2 rfl rfl ?_
  refine xw_aload_n dX4_empty_3 rfl rfl ?_
  refine xw_get (ci := 5) (k := 1) (v := .ref va) dX4_empty_4 (hfin _) rfl inX4 (by decide) tw_376 (Or.inl rfl) rfl ?_
  refine xw_rlen dX4_empty_7 (har _) ?_
  refine xw_icmp_ge (tgt := 27) dX4_empty_8 (by decide) (fun zz => absurd zz (by decide)) (fun _ => ?_)
  refine xw_aload_n dX4_empty_11 rfl rfl ?_
  refine xw_get (ci := 5) (k := 1) (v := .ref va) dX4_empty_12 (hfin _) rfl inX4 (by decide) tw_376 (Or.inl rfl) rfl ?_
  refine xw_iload_n dX4_empty_15 rfl rfl ?_
  refine xw_aload_n dX4_empty_16 rfl rfl ?_
  refine xw_get (ci := 5) (k := 0) (v := .ref no) dX4_empty_17 (hfin _) rfl inX4 (by decide) tw_375 (Or.inl rfl) rfl ?_
  refine xw_aast dX4_empty_20 (har _) (by unfold vp_in; decide) (hva _) rfl (fit_same (ci := 9) rfl rfl) ?_
  rw [show ((0 : Int32) + 1 + 1).toNatClampNeg = 2 by decide, v3_2, rput_rput]
  refine xw_iinc (v := ((0 + 1) + 1) + 1) (L2 := [(1, .int (((0 + 1) + 1) + 1)), (0, .ref a)]) dX4_empty_21 rfl rfl (by decide) rfl ?_
  refine xw_goto (tgt := 2) dX4_empty_24 (by decide) ?_
  refine xw_iload_n dX4_empty_2 rfl rfl ?_
  refine xw_aload_n dX4_empty_3 rfl rfl ?_
  refine xw_get (ci := 5) (k := 1) (v := .ref va) dX4_empty_4 (hfin _) rfl inX4 (by decide) tw_376 (Or.inl rfl) rfl ?_
  refine xw_rlen dX4_empty_7 (har _) ?_
  refine xw_icmp_ge (tgt := 27) dX4_empty_8 (by decide) (fun _ => ?_) (fun zz => absurd (by decide) zz)
  refine xw_aload_n dX4_empty_27 rfl rfl ?_
  refine xw_iconst (v := 0) dX4_empty_28 (by decide) ?_
  refine xw_pc (pc2 := 29) rfl ?_
  refine xw_put (ci := 5) (k := 4) tyX4 dX4_empty_29 (hfin _) rfl inX4 tyX4_ok nmX4 (by decide) tw_385 (Or.inl rfl) rfl rfl rfl rfl (Nat.le_of_ble_eq_true rfl) ?_
  dsimp only [List.set]
  exact xw_vret rfl dX4_empty_32 ⟨rfl, rfl⟩
theorem ct_Frames {no : Nat} {f1 f2 f3 : Value} (ho : So M 6 a = some [f1, f2, f3]) : CT G 4 80 mX5_init [.ref a, .ref no] M (fun r M1 => r = none ∧ M1 = oput (nq (nq M)) 6 a (some [.ref no, .ref (Sz M), .ref (Sz M + 1)])) := by
  refine ct_go (by decide +kernel) (Nat.le_of_ble_eq_true rfl) (L := [(0, .ref a), (1, .ref no)]) rfl ?_
  refine xw_aload_n dX5_init_0 rfl rfl ?_
  refine xw_obj dX5_init_1 tw_121 tw_71 tw_72 (Nat.le_of_ble_eq_true rfl) (Nat.le_of_ble_eq_true rfl) ?_
  refine xw_aload_n dX5_init_4 rfl rfl ?_
  refine xw_aload_n dX5_init_5 rfl rfl ?_
  refine xw_putF (ci := 6) (k := 0) tyX5 dX5_init_6 ho rfl inX5 tyX5_ok nmX5 (by decide) tw_124 (Or.inl rfl) rfl rfl rfl rfl rfl rfl (Nat.le_of_ble_eq_true rfl) ?_
  dsimp only [List.set]
  refine xw_aload_n dX5_init_9 rfl rfl ?_
  refine xw_wf fun hw => ?_
  refine xw_new (ci := 0) (fs := [.int 0, .null, .int 0]) tyJx4a65c dX5_init_10 rfl inJx4a65c tyJx4a65c_ok (by decide) tw_122 tw_91 tw_43 (fun j hj => by rcases (show j = 0 ∨ j = 1 ∨ j = 2 by omega) with rfl | rfl | rfl <;> rfl) ?_
  refine xw_dup dX5_init_13 rfl ?_
  refine xw_callI (q2 := mJx4a65c_init_da8c8) (n2 := 0) (Bs := []) (rest := [.ref (Sz M), .ref a]) (ct_linit hw) rfl dX5_init_14 rfl rfl tw_123 tw_93 tw_43 tw_94 (by decide +kernel) rfl (Nat.le_of_ble_eq_true rfl) (Nat.le_of_ble_eq_true rfl) (Nat.le_of_ble_eq_true rfl) (fun rr M1 hr hle1 => ?_)
  obtain ⟨rfl, hM1⟩ := hr
  obtain rfl : M1 = oput (nq M) 6 a (some [.ref no, f2, f3]) := hM1
  refine xw_putF (ci := 6) (k := 1) tyX5 dX5_init_17 (show So _ 6 a = some [.ref no, f2, f3] by rw [So_oput, if_pos ⟨rfl, rfl⟩]) rfl inX5 tyX5_ok nmX5 (by decide) tw_125 (Or.inl rfl) rfl rfl rfl rfl rfl rfl (Nat.le_of_ble_eq_true rfl) ?_
  dsimp only [List.set]
  rw [oput_oput]
  refine xw_aload_n dX5_init_20 rfl rfl ?_
  refine xw_wf fun hw2 => ?_
  refine xw_new (ci := 0) (fs := [.int 0, .null, .int 0]) tyJx4a65c dX5_init_21 rfl inJx4a65c tyJx4a65c_ok (by decide) tw_122 tw_91 tw_43 (fun j hj => by rcases (show j = 0 ∨ j = 1 ∨ j = 2 by omega) with rfl | rfl | rfl <;> rfl) ?_
  refine xw_dup dX5_init_24 rfl ?_
  refine xw_callI (q2 := mJx4a65c_init_da8c8) (n2 := 0) (Bs := []) (rest := [.ref (Sz M + 1), .ref a]) (ct_linit hw2) rfl dX5_init_25 rfl rfl tw_123 tw_93 tw_43 tw_94 (by decide +kernel) rfl (Nat.le_of_ble_eq_true rfl) (Nat.le_of_ble_eq_true rfl) (Nat.le_of_ble_eq_true rfl) (fun rr M1 hr hle1 => ?_)
  obtain ⟨rfl, hM1⟩ := hr
  obtain rfl : M1 = oput (nq (nq M)) 6 a (some [.ref no, .ref (Sz M), f3]) := hM1
  refine xw_putF (ci := 6) (k := 2) tyX5 dX5_init_28 (show So _ 6 a = some [.ref no, .ref (Sz M), f3] by rw [So_oput, if_pos ⟨rfl, rfl⟩]) rfl inX5 tyX5_ok nmX5 (by decide) tw_126 (Or.inl rfl) rfl rfl rfl rfl rfl rfl (Nat.le_of_ble_eq_true rfl) ?_
  dsimp only [List.set]
  rw [oput_oput]
  exact xw_vret rfl dX5_init_31 ⟨rfl, rfl⟩
end C2
