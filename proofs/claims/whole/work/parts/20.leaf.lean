/-! THE CLASS, its leaves -/
/-- a new empty list -/
def nq (M : hx_S) : hx_S := qput (grow M 3 50) (Sz M) (some ([], 0, 0, 0))
section N0
variable {M : hx_S}
theorem nq_oput (c a : Nat) (x : Option (List Value)) : nq (oput M c a x) = oput (nq M) c a x := rfl
theorem Sz_nq : Sz (nq M) = Sz M + 1 := rfl
theorem Sl_nq : Sl (nq M) = Sl M + 3 := rfl
theorem So_nq (c b : Nat) : So (nq M) c b = So M c b := rfl
theorem Si_nq (b : Nat) : Si (nq M) b = Si M b := rfl
theorem Sj_nq (b : Nat) : Sj (nq M) b = Sj M b := rfl
theorem Sr_nq (c b : Nat) : Sr (nq M) c b = Sr M c b := rfl
theorem Sq_nq (b : Nat) : Sq (nq M) b = if b = Sz M then some ([], 0, 0, 0) else Sq M b := rfl
end N0
section C1
variable {G : hx_G} {M : hx_S} {a : Nat}
theorem ct_Value {k : Int32} {x : Int64} {u v : Value} (ho : So M 9 a = some [u, v]) : CT G 1 20 mX8_init [.ref a, .int k, .long x] M (fun r M1 => r = none ∧ M1 = oput M 9 a (some [.int k, .long x])) := by
  refine ct_go (by decide +kernel) (Nat.le_of_ble_eq_true rfl) (L := [(0, .ref a), (1, .int k), (2, .long x)]) rfl ?_
  refine xw_aload_n dX8_init_0 rfl rfl ?_
  refine xw_obj dX8_init_1 tw_78 tw_71 tw_72 (Nat.le_of_ble_eq_true rfl) (Nat.le_of_ble_eq_true rfl) ?_
  refine xw_aload_n dX8_init_4 rfl rfl ?_
  refine xw_iload_n dX8_init_5 rfl rfl ?_
  refine xw_putF (ci := 9) (k := 0) tyX8 dX8_init_6 ho rfl inX8 tyX8_ok nmX8 (by decide) tw_79 (Or.inl rfl) rfl rfl rfl rfl rfl rfl (Nat.le_of_ble_eq_true rfl) ?_
  dsimp only [List.set]
  refine xw_aload_n dX8_init_9 rfl rfl ?_
  refine xw_lload_n dX8_init_10 rfl rfl ?_
  refine xw_putF (ci := 9) (k := 1) tyX8 dX8_init_11 (show So _ 9 a = some [.int k, v] by rw [So_oput, if_pos ⟨rfl, rfl⟩]) rfl inX8 tyX8_ok nmX8 (by decide) tw_83 (Or.inl rfl) rfl rfl rfl rfl rfl rfl (Nat.le_of_ble_eq_true rfl) ?_
  dsimp only [List.set]
  rw [oput_oput]
  exact xw_vret rfl dX8_init_14 ⟨rfl, rfl⟩
theorem ct_Result {c : Int32} {w : Nat} {u v : Value} (ho : So M 8 a = some [u, v]) : CT G 1 20 mX7_init [.ref a, .ref w, .int c] M (fun r M1 => r = none ∧ M1 = oput M 8 a (some [.ref w, .int c])) := by
  refine ct_go (by decide +kernel) (Nat.le_of_ble_eq_true rfl) (L := [(0, .ref a), (1, .ref w), (2, .int c)]) rfl ?_
  refine xw_aload_n dX7_init_0 rfl rfl ?_
  refine xw_obj dX7_init_1 tw_729 tw_71 tw_72 (Nat.le_of_ble_eq_true rfl) (Nat.le_of_ble_eq_true rfl) ?_
  refine xw_aload_n dX7_init_4 rfl rfl ?_
  refine xw_aload_n dX7_init_5 rfl rfl ?_
  refine xw_putF (ci := 8) (k := 0) tyX7 dX7_init_6 ho rfl inX7 tyX7_ok nmX7 (by decide) tw_730 (Or.inl rfl) rfl rfl rfl rfl rfl rfl (Nat.le_of_ble_eq_true rfl) ?_
  dsimp only [List.set]
  refine xw_aload_n dX7_init_9 rfl rfl ?_
  refine xw_iload_n dX7_init_10 rfl rfl ?_
  refine xw_putF (ci := 8) (k := 1) tyX7 dX7_init_11 (show So _ 8 a = some [.ref w, v] by rw [So_oput, if_pos ⟨rfl, rfl⟩]) rfl inX7 tyX7_ok nmX7 (by decide) tw_732 (Or.inl rfl) rfl rfl rfl rfl rfl rfl (Nat.le_of_ble_eq_true rfl) ?_
  dsimp only [List.set]
  rw [oput_oput]
  exact xw_vret rfl dX7_init_14 ⟨rfl, rfl⟩
theorem ct_Arc {s p : Int32} {w : Nat} {u v z : Value} (ho : So M 1 a = some [u, v, z]) : CT G 1 20 mX0_init [.ref a, .int s, .ref w, .int p] M (fun r M1 => r = none ∧ M1 = oput M 1 a (some [.int s, .ref w, .int p])) := by
  refine ct_go (by decide +kernel) (Nat.le_of_ble_eq_true rfl) (L := [(0, .ref a), (1, .int s), (2, .ref w), (3, .int p)]) rfl ?_
  refine xw_aload_n dX0_init_0 rfl rfl ?_
  refine xw_obj dX0_init_1 tw_265 tw_71 tw_72 (Nat.le_of_ble_eq_true rfl) (Nat.le_of_ble_eq_true rfl) ?_
  refine xw_aload_n dX0_init_4 rfl rfl ?_
  refine xw_iload_n dX0_init_5 rfl rfl ?_
  refine xw_pc (pc2 := 6) rfl ?_
  refine xw_putF (ci := 1) (k := 0) tyX0 dX0_init_6 ho rfl inX0 tyX0_ok nmX0 (by decide) tw_266 (Or.inl rfl) rfl rfl rfl rfl rfl rfl (Nat.le_of_ble_eq_true rfl) ?_
  dsimp only [List.set]
  refine xw_aload_n dX0_init_9 rfl rfl ?_
  refine xw_aload_n dX0_init_10 rfl rfl ?_
  refine xw_putF (ci := 1) (k := 1) tyX0 dX0_init_11 (show So _ 1 a = some [.int s, v, z] by rw [So_oput, if_pos ⟨rfl, rfl⟩]) rfl inX0 tyX0_ok nmX0 (by decide) tw_268 (Or.inl rfl) rfl rfl rfl rfl rfl rfl (Nat.le_of_ble_eq_true rfl) ?_
  dsimp only [List.set]
  rw [oput_oput]
  refine xw_aload_n dX0_init_14 rfl rfl ?_
  refine xw_iload_n dX0_init_15 rfl rfl ?_
  refine xw_putF (ci := 1) (k := 2) tyX0 dX0_init_16 (show So _ 1 a = some [.int s, .ref w, z] by rw [So_oput, if_pos ⟨rfl, rfl⟩]) rfl inX0 tyX0_ok nmX0 (by decide) tw_270 (Or.inl rfl) rfl rfl rfl rfl rfl rfl (Nat.le_of_ble_eq_true rfl) ?_
  dsimp only [List.set]
  rw [oput_oput]
  exact xw_vret rfl dX0_init_19 ⟨rfl, rfl⟩
theorem ct_Cell {w : Nat} {u v : Value} (ho : So M 2 a = some [u, v]) : CT G 4 80 mX1_init [.ref a, .ref w] M (fun r M1 => r = none ∧ M1 = oput (nq M) 2 a (some [.ref (Sz M), .ref w])) := by
  refine ct_wf fun hw => ct_go (by decide +kernel) (Nat.le_of_ble_eq_true rfl) (L := [(0, .ref a), (1, .ref w)]) rfl ?_
  refine xw_aload_n dX1_init_0 rfl rfl ?_
  refine xw_obj dX1_init_1 tw_693 tw_71 tw_72 (Nat.le_of_ble_eq_true rfl) (Nat.le_of_ble_eq_true rfl) ?_
  refine xw_aload_n dX1_init_4 rfl rfl ?_
  refine xw_new (ci := 0) (fs := [.int 0, .null, .int 0]) tyJx4a65c dX1_init_5 rfl inJx4a65c tyJx4a65c_ok (by decide) tw_694 tw_91 tw_43 (fun j hj => by rcases (show j = 0 ∨ j = 1 ∨ j = 2 by omega) with rfl | rfl | rfl <;> rfl) ?_
  refine xw_dup dX1_init_8 rfl ?_
  refine xw_callI (q2 := mJx4a65c_init_da8c8) (n2 := 0) (Bs := []) (rest := [.ref (Sz M), .ref a]) (ct_linit hw) rfl dX1_init_9 rfl rfl tw_695 tw_93 tw_43 tw_94 (by decide +kernel) rfl (Nat.le_of_ble_eq_true rfl) (Nat.le_of_ble_eq_true rfl) (Nat.le_of_ble_eq_true rfl) (fun rr M1 hr hle1 => ?_)
  obtain ⟨rfl, rfl⟩ := hr
  refine xw_putF (ci := 2) (k := 0) tyX1 dX1_init_12 (show So (nq M) 2 a = some [u, v] from ho) rfl inX1 tyX1_ok nmX1 (by decide) tw_696 (Or.inl rfl) rfl rfl rfl rfl rfl rfl (Nat.le_of_ble_eq_true rfl) ?_
  dsimp only [List.set]
  refine xw_aload_n dX1_init_15 rfl rfl ?_
  refine xw_aload_n dX1_init_16 rfl rfl ?_
  refine xw_put (ci := 2) (k := 1) tyX1 dX1_init_17 (show So _ 2 a = some [.ref (Sz M), v] by rw [So_oput, if_pos ⟨rfl, rfl⟩]) rfl inX1 tyX1_ok nmX1 (by decide) tw_699 (Or.inl rfl) rfl rfl rfl rfl (Nat.le_of_ble_eq_true rfl) ?_
  dsimp only [List.set]
  rw [oput_oput]
  exact xw_vret rfl dX1_init_20 ⟨rfl, rfl⟩
theorem ct_isWritten {kl va : Nat} {k : Int32} {n : Value} (ho : So M 2 a = some [.ref kl, .ref va]) (hv : So M 9 va = some [.int k, n]) : CT G 0 0 mX1_isWritten [.ref a] M (fun r M1 => r = some (.int (if k = 3 then 0 else 1)) ∧ M1 = M) := by
  refine ct_go (by decide +kernel) (Nat.le_of_ble_eq_true rfl) (L := [(0, .ref a)]) rfl ?_
  refine xw_aload_n dX1_isWritten_0 rfl rfl ?_
  refine xw_get (ci := 2) (k := 1) (v := .ref va) dX1_isWritten_1 ho rfl inX1 (by decide) tw_699 (Or.inl rfl) rfl ?_
  refine xw_get (ci := 9) (k := 0) (v := .int k) dX1_isWritten_4 hv rfl inX8 (by decide) tw_80 (Or.inl rfl) rfl ?_
  refine xw_iconst (v := 3) dX1_isWritten_7 (by decide) ?_
  refine xw_icmp_eq (tgt := 15) dX1_isWritten_8 (by decide) (fun c1 => ?_) (fun c1 => ?_)
  · skip
    refine xw_iconst (v := 0) dX1_isWritten_15 (by decide) ?_
    exact xw_zret rfl rfl dX1_isWritten_16 ⟨by rw [if_pos c1], rfl⟩
  · skip
    refine xw_iconst (v := 1) dX1_isWritten_11 (by decide) ?_
    refine xw_goto (tgt := 16) dX1_isWritten_12 (by decide) ?_
    refine xw_pc (pc2 := 16) rfl ?_
    exact xw_zret rfl rfl dX1_isWritten_16 ⟨by rw [if_neg c1], rfl⟩
theorem ct_Node {k o n p x y : Int32} {f1 f2 f3 f4 f5 f6 f7 f8 : Value} (ho : So M 7 a = some [f1, f2, f3, f4, f5, f6, f7, f8]) : CT G 4 80 mX6_init [.ref a, .int k, .int o, .int n, .int p, .int x, .int y] M (fun r M1 => r = none ∧ M1 = oput (nq (nq M)) 7 a (some [.int k, .int o, .int n, .int p, .int x, .int y, .ref (Sz M), .ref (Sz M + 1)])) := by
  refine ct_go (by decide +kernel) (Nat.le_of_ble_eq_true rfl) (L := [(0, .ref a), (1, .int k), (2, .int o), (3, .int n), (4, .int p), (5, .int x), (6, .int y)]) rfl ?_
  refine xw_aload_n dX6_init_0 rfl rfl ?_
  refine xw_obj dX6_init_1 tw_570 tw_71 tw_72 (Nat.le_of_ble_eq_true rfl) (Nat.le_of_ble_eq_true rfl) ?_
  refine xw_aload_n dX6_init_4 rfl rfl ?_
  refine xw_iload_n dX6_init_5 rfl rfl ?_
  refine xw_putF (ci := 7) (k := 0) tyX6 dX6_init_6 ho rfl inX6 tyX6_ok nmX6 (by decide) tw_573 (Or.inl rfl) rfl rfl rfl rfl rfl rfl (Nat.le_of_ble_eq_true rfl) ?_
  dsimp only [List.set]
  refine xw_aload_n dX6_init_9 rfl rfl ?_
  refine xw_iload_n dX6_init_10 rfl rfl ?_
  refine xw_putF (ci := 7) (k := 1) tyX6 dX6_init_11 (show So _ 7 a = some [.int k, f2, f3, f4, f5, f6, f7, f8] by rw [So_oput, if_pos ⟨rfl, rfl⟩]) rfl inX6 tyX6_ok nmX6 (by decide) tw_575 (Or.inl rfl) rfl rfl rfl rfl rfl rfl (Nat.le_of_ble_eq_true rfl) ?_
  dsimp only [List.set]
  rw [oput_oput]
  refine xw_aload_n dX6_init_14 rfl rfl ?_
  refine xw_iload_n dX6_init_15 rfl rfl ?_
  refine xw_putF (ci := 7) (k := 2) tyX6 dX6_init_16 (show So _ 7 a = some [.int k, .int o, f3, f4, f5, f6, f7, f8] by rw [So_oput, if_pos ⟨rfl, rfl⟩]) rfl inX6 tyX6_ok nmX6 (by decide) tw_577 (Or.inl rfl) rfl rfl rfl rfl rfl rfl (Nat.le_of_ble_eq_true rfl) ?_
  dsimp only [List.set]
  rw [oput_oput]
  refine xw_aload_n dX6_init_19 rfl rfl ?_
  refine xw_iload dX6_init_20 rfl ?_
  refine xw_putF (ci := 7) (k := 3) tyX6 dX6_init_22 (show So _ 7 a = some [.int k, .int o, .int n, f4, f5, f6, f7, f8] by rw [So_oput, if_pos ⟨rfl, rfl⟩]) rfl inX6 tyX6_ok nmX6 (by decide) tw_579 (Or.inl rfl) rfl rfl rfl rfl rfl rfl (Nat.le_of_ble_eq_true rfl) ?_
  dsimp only [List.set]
  rw [oput_oput]
  refine xw_aload_n dX6_init_25 rfl rfl ?_
  refine xw_iload dX6_init_26 rfl ?_
  refine xw_putF (ci := 7) (k := 4) tyX6 dX6_init_28 (show So _ 7 a = some [.int k, .int o, .int n, .int p, f5, f6, f7, f8] by rw [So_oput, if_pos ⟨rfl, rfl⟩]) rfl inX6 tyX6_ok nmX6 (by decide) tw_581 (Or.inl rfl) rfl rfl rfl rfl rfl rfl (Nat.le_of_ble_eq_true rfl) ?_
  dsimp only [List.set]
  rw [oput_oput]
  refine xw_aload_n dX6_init_31 rfl rfl ?_
  refine xw_iload dX6_init_32 rfl ?_
  refine xw_pc (pc2 := 34) rfl ?_
  refine xw_putF (ci := 7) (k := 5) tyX6 dX6_init_34 (show So _ 7 a = some [.int k, .int o, .int n, .int p, .int x, f6, f7, f8] by rw [So_oput, if_pos ⟨rfl, rfl⟩]) rfl inX6 tyX6_ok nmX6 (by decide) tw_583 (Or.inl rfl) rfl rfl rfl rfl rfl rfl (Nat.le_of_ble_eq_true rfl) ?_
  dsimp only [List.set]
  rw [oput_oput]
  refine xw_aload_n dX6_init_37 rfl rfl ?_
  refine xw_wf fun hw => ?_
  refine xw_new (ci := 0) (fs := [.int 0, .null, .int 0]) tyJx4a65c dX6_init_38 rfl inJx4a65c tyJx4a65c_ok (by decide) tw_571 tw_91 tw_43 (fun j hj => by rcases (show j = 0 ∨ j = 1 ∨ j = 2 by omega) with rfl | rfl | rfl <;> rfl) ?_
  refine xw_dup dX6_init_41 rfl ?_
  refine xw_callI (q2 := mJx4a65c_init_da8c8) (n2 := 0) (Bs := []) (rest := [.ref (Sz M), .ref a]) (ct_linit hw) rfl dX6_init_42 rfl rfl tw_572 tw_93 tw_43 tw_94 (by decide +kernel) rfl (Nat.le_of_ble_eq_true rfl) (Nat.le_of_ble_eq_true rfl) (Nat.le_of_ble_eq_true rfl) (fun rr M1 hr hle1 => ?_)
  obtain ⟨rfl, hM1⟩ := hr
  obtain rfl : M1 = oput (nq M) 7 a (some [.int k, .int o, .int n, .int p, .int x, .int y, f7, f8]) := hM1
  refine xw_putF (ci := 7) (k := 6) tyX6 dX6_init_45 (show So _ 7 a = some [.int k, .int o, .int n, .int p, .int x, .int y, f7, f8] by rw [So_oput, if_pos ⟨rfl, rfl⟩]) rfl inX6 tyX6_ok nmX6 (by decide) tw_585 (Or.inl rfl) rfl rfl rfl rfl rfl rfl (Nat.le_of_ble_eq_true rfl) ?_
  dsimp only [List.set]
  rw [oput_oput]
  refine xw_aload_n dX6_init_48 rfl rfl ?_
  refine xw_wf fun hw2 => ?_
  refine xw_new (ci := 0) (fs := [.int 0, .null, .int 0]) tyJx4a65c dX6_init_49 rfl inJx4a65c tyJx4a65c_ok (by decide) tw_571 tw_91 tw_43 (fun j hj => by rcases (show j = 0 ∨ j = 1 ∨ j = 2 by omega) with rfl | rfl | rfl <;> rfl) ?_
  refine xw_dup dX6_init_52 rfl ?_
  refine xw_callI (q2 := mJx4a65c_init_da8c8) (n2 := 0) (Bs := []) (rest := [.ref (Sz M + 1), .ref a]) (ct_linit hw2) rfl dX6_init_53 rfl rfl tw_572 tw_93 tw_43 tw_94 (by decide +kernel) rfl (Nat.le_of_ble_eq_true rfl) (Nat.le_of_ble_eq_true rfl) (Nat.le_of_ble_eq_true rfl) (fun rr M1 hr hle1 => ?_)
  obtain ⟨rfl, hM1⟩ := hr
  obtain rfl : M1 = oput (nq (nq M)) 7 a (some [.int k, .int o, .int n, .int p, .int x, .int y, .ref (Sz M), f8]) := hM1
  refine xw_putF (ci := 7) (k := 7) tyX6 dX6_init_56 (show So _ 7 a = some [.int k, .int o, .int n, .int p, .int x, .int y, .ref (Sz M), f8] by rw [So_oput, if_pos ⟨rfl, rfl⟩]) rfl inX6 tyX6_ok nmX6 (by decide) tw_587 (Or.inl rfl) rfl rfl rfl rfl rfl rfl (Nat.le_of_ble_eq_true rfl) ?_
  dsimp only [List.set]
  rw [oput_oput]
  exact xw_vret rfl dX6_init_59 ⟨rfl, rfl⟩
theorem ct_hasSide {k o n p x y s : Int32} {f7 f8 : Value} (ho : So M 7 a = some [.int k, .int o, .int n, .int p, .int x, .int y, f7, f8]) : CT G 0 0 mX6_hasSide [.ref a, .int s] M (fun r M1 => r = some (.int (if s = 0 ∨ (s = 1 ∧ o = 7) then 1 else 0)) ∧ M1 = M) := by
  refine ct_go (by decide +kernel) (Nat.le_of_ble_eq_true rfl) (L := [(0, .ref a), (1, .int s)]) rfl ?_
  refine xw_iload_n dX6_hasSide_0 rfl rfl ?_
  refine xw_if_eq (tgt := 18) dX6_hasSide_1 (by decide) (fun c1 => ?_) (fun c1 => ?_)
  · skip
    refine xw_iconst (v := 1) dX6_hasSide_18 (by decide) ?_
    refine xw_goto (tgt := 23) dX6_hasSide_19 (by decide) ?_
    exact xw_zret rfl rfl dX6_hasSide_23 ⟨by rw [if_pos (Or.inl c1)], rfl⟩
  · skip
    refine xw_iload_n dX6_hasSide_4 rfl rfl ?_
    refine xw_iconst (v := 1) dX6_hasSide_5 (by decide) ?_
    refine xw_icmp_ne (tgt := 22) dX6_hasSide_6 (by decide) (fun c2 => ?_) (fun c2 => ?_)
    · skip
      refine xw_iconst (v := 0) dX6_hasSide_22 (by decide) ?_
      exact xw_zret rfl rfl dX6_hasSide_23 ⟨by rw [if_neg (fun z => z.elim c1 (fun w => c2 w.1))], rfl⟩
    · skip
      refine xw_aload_n dX6_hasSide_9 rfl rfl ?_
      refine xw_get (ci := 7) (k := 1) (v := .int o) dX6_hasSide_10 ho rfl inX6 (by decide) tw_575 (Or.inl rfl) rfl ?_
      refine xw_bipush (v := 7) dX6_hasSide_13 (by decide) ?_
      refine xw_icmp_ne (tgt := 22) dX6_hasSide_15 (by decide) (fun c3 => ?_) (fun c3 => ?_)
      · skip
        refine xw_iconst (v := 0) dX6_hasSide_22 (by decide) ?_
        refine xw_pc (pc2 := 23) rfl ?_
        exact xw_zret rfl rfl dX6_hasSide_23 ⟨by rw [if_neg (fun z => z.elim c1 (fun w => c3 w.2))], rfl⟩
      · skip
        refine xw_iconst (v := 1) dX6_hasSide_18 (by decide) ?_
        refine xw_goto (tgt := 23) dX6_hasSide_19 (by decide) ?_
        exact xw_zret rfl rfl dX6_hasSide_23 ⟨by rw [if_pos (Or.inr ⟨c2, c3⟩)], rfl⟩
theorem ct_hasPort {k o n p x y s : Int32} {f7 f8 : Value} (ho : So M 7 a = some [.int k, .int o, .int n, .int p, .int x, .int y, f7, f8]) : CT G 0 0 mX6_hasPort [.ref a, .int s] M (fun r M1 => r = some (.int (if ¬ s < 0 ∧ ¬ p ≤ s then 1 else 0)) ∧ M1 = M) := by
  refine ct_go (by decide +kernel) (Nat.le_of_ble_eq_true rfl) (L := [(0, .ref a), (1, .int s)]) rfl ?_
  refine xw_iload_n dX6_hasPort_0 rfl rfl ?_
  refine xw_if_lt (tgt := 16) dX6_hasPort_1 (by decide) (fun c1 => ?_) (fun c1 => ?_)
  · skip
    refine xw_iconst (v := 0) dX6_hasPort_16 (by decide) ?_
    exact xw_zret rfl rfl dX6_hasPort_17 ⟨by rw [if_neg (fun z => z.1 c1)], rfl⟩
  · skip
    refine xw_iload_n dX6_hasPort_4 rfl rfl ?_
    refine xw_aload_n dX6_hasPort_5 rfl rfl ?_
    refine xw_get (ci := 7) (k := 3) (v := .int p) dX6_hasPort_6 ho rfl inX6 (by decide) tw_579 (Or.inl rfl) rfl ?_
    refine xw_icmp_ge (tgt := 16) dX6_hasPort_9 (by decide) (fun c2 => ?_) (fun c2 => ?_)
    · skip
      refine xw_iconst (v := 0) dX6_hasPort_16 (by decide) ?_
      exact xw_zret rfl rfl dX6_hasPort_17 ⟨by rw [if_neg (fun z => z.2 c2)], rfl⟩
    · skip
      refine xw_iconst (v := 1) dX6_hasPort_12 (by decide) ?_
      refine xw_goto (tgt := 17) dX6_hasPort_13 (by decide) ?_
      exact xw_zret rfl rfl dX6_hasPort_17 ⟨by rw [if_pos ⟨c1, c2⟩], rfl⟩
end C1
