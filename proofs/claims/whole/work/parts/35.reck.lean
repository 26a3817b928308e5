/-! THE CLASS: reckoned, quotient, Cells.at -/
section RECK
variable {G : hx_G} {M : hx_S} {A : hA} {Γ : hG} {σ : hs_S} {γ : hf_S} {b : Nat} {v : V2}
theorem nv_new {c a : Nat} {x : Option (List Value)} {u : List Value} (hw : Wf M) (h : So M c a = some u) : So (oput (grow M 2 9) 9 (Sz M) x) c a = some u := (ext_new hw).so h id
theorem nv_0 {x : Option (List Value)} : So (oput (grow M 2 9) 9 (Sz M) x) 9 (Sz M) = x := by rw [So_oput, if_pos ⟨rfl, rfl⟩]
theorem ct_quotient {x y : Int64} : CT G 2 43 mX9_quotient [.long x, .long y] M (fun r M1 => r = some (.ref (Sz M)) ∧ M1 = nv M (if y = 0 then (1, 1) else (0, x / y))) := by
  refine ct_go (by decide +kernel) (Nat.le_of_ble_eq_true rfl) (L := [(0, .long x), (2, .long y)]) rfl ?_
  refine xw_lload_n dX9_quotient_0 rfl rfl ?_
  refine xw_lconst (v := 0) dX9_quotient_1 (by decide) ?_
  refine xw_lcmp dX9_quotient_2 ?_
  refine xw_if_ne (tgt := 16) dX9_quotient_3 (by decide) (fun c1 => ?_) (fun c1 => ?_)
  · have h0 : ¬ y = 0 := fun z => c1 ((lg_cmp_eq _ _).mpr z)
    refine xw_new (ci := 9) (fs := [.int 0, .long 0]) tyX8 dX9_quotient_16 rfl inX8 tyX8_ok (by decide) tw_73 tw_74 tw_40 (fun j hj => by rcases (show j = 0 ∨ j = 1 by omega) with rfl | rfl <;> rfl) ?_
    refine xw_dup dX9_quotient_19 rfl ?_
    refine xw_iconst (v := 0) dX9_quotient_20 (by decide) ?_
    refine xw_lload_n dX9_quotient_21 rfl rfl ?_
    refine xw_lload_n dX9_quotient_22 rfl rfl ?_
    refine xw_ldiv dX9_quotient_23 h0 ?_
    refine xw_callI (q2 := mX8_init) (n2 := 2) (Bs := [.int 0, .long (x / y)]) (rest := [.ref (Sz M)]) (ct_Value (a := Sz M) nv_0) rfl dX9_quotient_24 rfl rfl tw_75 tw_76 tw_40 tw_77 (by decide +kernel) rfl (Nat.le_of_ble_eq_true rfl) (Nat.le_of_ble_eq_true rfl) (Nat.le_of_ble_eq_true rfl) (fun rr M1 hr hle1 => ?_)
    obtain ⟨rfl, hM1⟩ := hr
    rw [oput_oput] at hM1
    obtain rfl : M1 = nv M (0, x / y) := hM1
    exact xw_aret rfl (Or.inl ⟨_, rfl⟩) (Or.inr ⟨_, rfl⟩) dX9_quotient_27 ⟨rfl, by rw [if_neg h0]⟩
  · have h0 : y = 0 := (lg_cmp_eq _ _).mp c1
    refine xw_new (ci := 9) (fs := [.int 0, .long 0]) tyX8 dX9_quotient_6 rfl inX8 tyX8_ok (by decide) tw_73 tw_74 tw_40 (fun j hj => by rcases (show j = 0 ∨ j = 1 by omega) with rfl | rfl <;> rfl) ?_
    refine xw_dup dX9_quotient_9 rfl ?_
    refine xw_iconst (v := 1) dX9_quotient_10 (by decide) ?_
    refine xw_lconst (v := 1) dX9_quotient_11 (by decide) ?_
    refine xw_callI (q2 := mX8_init) (n2 := 2) (Bs := [.int 1, .long 1]) (rest := [.ref (Sz M)]) (ct_Value (a := Sz M) nv_0) rfl dX9_quotient_12 rfl rfl tw_75 tw_76 tw_40 tw_77 (by decide +kernel) rfl (Nat.le_of_ble_eq_true rfl) (Nat.le_of_ble_eq_true rfl) (Nat.le_of_ble_eq_true rfl) (fun rr M1 hr hle1 => ?_)
    obtain ⟨rfl, hM1⟩ := hr
    rw [oput_oput] at hM1
    obtain rfl : M1 = nv M (1, 1) := hM1
    exact xw_aret rfl (Or.inl ⟨_, rfl⟩) (Or.inr ⟨_, rfl⟩) dX9_quotient_15 ⟨rfl, by rw [if_pos h0]⟩
theorem ct_reckoned (h : Rep M A Γ σ γ b) {i wx wy : Nat} {x y : V2} (hi : i < (sN σ).length) (ho : (nd σ i).1 ≤ 6) (hx : So M 9 wx = some [.int x.1, .long x.2]) (hy : So M 9 wy = some [.int y.1, .long y.2]) : CT G 3 66 mX9_reckoned [.ref (nad Γ i), .ref wx, .ref wy] M (fun r M1 => ∃ w, r = some (.ref w) ∧ So M1 9 w = some [.int (reck (nd σ i).1 (nd σ i).2.1 x y).1, .long (reck (nd σ i).1 (nd σ i).2.1 x y).2] ∧ Rep M1 A Γ σ γ (b + 28) ∧ XE A M M1) := by
  refine ct_wf fun hw => ?_
  refine ct_go (by decide +kernel) (Nat.le_of_ble_eq_true rfl) (L := [(0, .ref (nad Γ i)), (1, .ref wx), (2, .ref wy)]) rfl ?_
  have hnode := h.2.1.node hi
  refine xw_aload_n dX9_reckoned_0 rfl rfl ?_
  refine xw_get (ci := 7) (k := 1) (v := .int (nI (nd σ i).1)) dX9_reckoned_1 hnode rfl inX6 (by decide) tw_576 (Or.inl rfl) rfl ?_
  have fin : ∀ (u : V2), u = reck (nd σ i).1 (nd σ i).2.1 x y → ∃ w, (some (Value.ref (Sz M)) : Option Value) = some (.ref w) ∧ So (nv M u) 9 w = some [.int (reck (nd σ i).1 (nd σ i).2.1 x y).1, .long (reck (nd σ i).1 (nd σ i).2.1 x y).2] ∧ Rep (nv M u) A Γ σ γ (b + 28) ∧ XE A M (nv M u) := fun u hu => ⟨Sz M, rfl, by rw [nv_at, hu], h.nval hw, xe_nv hw⟩
  rcases (show (nd σ i).1 = 0 ∨ (nd σ i).1 = 1 ∨ (nd σ i).1 = 2 ∨ (nd σ i).1 = 3 ∨ (nd σ i).1 = 4 ∨ (nd σ i).1 = 5 ∨ (nd σ i).1 = 6 by omega) with e | e | e | e | e | e | e
  · refine Eq.mp (congrArg (fun z => XW G 3 66 mX9_reckoned [.ref (nad Γ i), .ref wx, .ref wy] M _ _ _ _ [.int (nI z)]) e.symm) ?_
    refine xw_tableIn (off := 150) (tgt := 154) dX9_reckoned_4 (by decide +kernel) (by decide +kernel) (by decide +kernel) rfl ?_
    refine xw_aload_n dX9_reckoned_154 rfl rfl ?_
    refine xw_pc (pc2 := 155) rfl ?_
    exact xw_aret rfl (Or.inl ⟨_, rfl⟩) (Or.inr ⟨_, rfl⟩) dX9_reckoned_155 ⟨wx, rfl, by rw [e]; exact hx, h.mono (by omega), XE.rf _ _⟩
  · refine Eq.mp (congrArg (fun z => XW G 3 66 mX9_reckoned [.ref (nad Γ i), .ref wx, .ref wy] M _ _ _ _ [.int (nI z)]) e.symm) ?_
    refine xw_tableIn (off := 44) (tgt := 48) dX9_reckoned_4 (by decide +kernel) (by decide +kernel) (by decide +kernel) rfl ?_
    refine xw_new (ci := 9) (fs := [.int 0, .long 0]) tyX8 dX9_reckoned_48 rfl inX8 tyX8_ok (by decide) tw_73 tw_74 tw_40 (fun j hj => by rcases (show j = 0 ∨ j = 1 by omega) with rfl | rfl <;> rfl) ?_
    refine xw_dup dX9_reckoned_51 rfl ?_
    refine xw_iconst (v := 0) dX9_reckoned_52 (by decide) ?_
    refine xw_aload_n dX9_reckoned_53 rfl rfl ?_
    refine xw_get (ci := 9) (k := 1) (v := .long x.2) dX9_reckoned_54 (nv_new hw hx) rfl inX8 (by decide) tw_84 (Or.inl rfl) rfl ?_
    refine xw_aload_n dX9_reckoned_57 rfl rfl ?_
    refine xw_get (ci := 9) (k := 1) (v := .long y.2) dX9_reckoned_58 (nv_new hw hy) rfl inX8 (by decide) tw_84 (Or.inl rfl) rfl ?_
    refine xw_ladd dX9_reckoned_61 ?_
    refine xw_callI (q2 := mX8_init) (n2 := 2) (Bs := [.int 0, .long (x.2 + y.2)]) (rest := [.ref (Sz M)]) (ct_Value (a := Sz M) nv_0) rfl dX9_reckoned_62 rfl rfl tw_75 tw_76 tw_40 tw_77 (by decide +kernel) rfl (Nat.le_of_ble_eq_true rfl) (Nat.le_of_ble_eq_true rfl) (Nat.le_of_ble_eq_true rfl) (fun rr M1 hr hle1 => ?_)
    obtain ⟨rfl, hM1⟩ := hr
    rw [oput_oput] at hM1
    obtain rfl : M1 = nv M (0, x.2 + y.2) := hM1
    exact xw_aret rfl (Or.inl ⟨_, rfl⟩) (Or.inr ⟨_, rfl⟩) dX9_reckoned_65 (fin _ (by rw [e]; rfl))
  · refine Eq.mp (congrArg (fun z => XW G 3 66 mX9_reckoned [.ref (nad Γ i), .ref wx, .ref wy] M _ _ _ _ [.int (nI z)]) e.symm) ?_
    refine xw_tableIn (off := 62) (tgt := 66) dX9_reckoned_4 (by decide +kernel) (by decide +kernel) (by decide +kernel) rfl ?_
    refine xw_new (ci := 9) (fs := [.int 0, .long 0]) tyX8 dX9_reckoned_66 rfl inX8 tyX8_ok (by decide) tw_73 tw_74 tw_40 (fun j hj => by rcases (show j = 0 ∨ j = 1 by omega) with rfl | rfl <;> rfl) ?_
    refine xw_dup dX9_reckoned_69 rfl ?_
    refine xw_iconst (v := 0) dX9_reckoned_70 (by decide) ?_
    refine xw_aload_n dX9_reckoned_71 rfl rfl ?_
    refine xw_get (ci := 9) (k := 1) (v := .long x.2) dX9_reckoned_72 (nv_new hw hx) rfl inX8 (by decide) tw_84 (Or.inl rfl) rfl ?_
    refine xw_aload_n dX9_reckoned_75 rfl rfl ?_
    refine xw_get (ci := 9) (k := 1) (v := .long y.2) dX9_reckoned_76 (nv_new hw hy) rfl inX8 (by decide) tw_84 (Or.inl rfl) rfl ?_
    refine xw_lsub dX9_reckoned_79 ?_
    refine xw_pc (pc2 := 80) rfl ?_
    refine xw_callI (q2 := mX8_init) (n2 := 2) (Bs := [.int 0, .long (x.2 - y.2)]) (rest := [.ref (Sz M)]) (ct_Value (a := Sz M) nv_0) rfl dX9_reckoned_80 rfl rfl tw_75 tw_76 tw_40 tw_77 (by decide +kernel) rfl (Nat.le_of_ble_eq_true rfl) (Nat.le_of_ble_eq_true rfl) (Nat.le_of_ble_eq_true rfl) (fun rr M1 hr hle1 => ?_)
    obtain ⟨rfl, hM1⟩ := hr
    rw [oput_oput] at hM1
    obtain rfl : M1 = nv M (0, x.2 - y.2) := hM1
    exact xw_aret rfl (Or.inl ⟨_, rfl⟩) (Or.inr ⟨_, rfl⟩) dX9_reckoned_83 (fin _ (by rw [e]; rfl))
  · refine Eq.mp (congrArg (fun z => XW G 3 66 mX9_reckoned [.ref (nad Γ i), .ref wx, .ref wy] M _ _ _ _ [.int (nI z)]) e.symm) ?_
    refine xw_tableIn (off := 80) (tgt := 84) dX9_reckoned_4 (by decide +kernel) (by decide +kernel) (by decide +kernel) rfl ?_
    refine xw_new (ci := 9) (fs := [.int 0, .long 0]) tyX8 dX9_reckoned_84 rfl inX8 tyX8_ok (by decide) tw_73 tw_74 tw_40 (fun j hj => by rcases (show j = 0 ∨ j = 1 by omega) with rfl | rfl <;> rfl) ?_
    refine xw_dup dX9_reckoned_87 rfl ?_
    refine xw_iconst (v := 0) dX9_reckoned_88 (by decide) ?_
    refine xw_aload_n dX9_reckoned_89 rfl rfl ?_
    refine xw_get (ci := 9) (k := 1) (v := .long x.2) dX9_reckoned_90 (nv_new hw hx) rfl inX8 (by decide) tw_84 (Or.inl rfl) rfl ?_
    refine xw_aload_n dX9_reckoned_93 rfl rfl ?_
    refine xw_get (ci := 9) (k := 1) (v := .long y.2) dX9_reckoned_94 (nv_new hw hy) rfl inX8 (by decide) tw_84 (Or.inl rfl) rfl ?_
    refine xw_lmul dX9_reckoned_97 ?_
    refine xw_callI (q2 := mX8_init) (n2 := 2) (Bs := [.int 0, .long (x.2 * y.2)]) (rest := [.ref (Sz M)]) (ct_Value (a := Sz M) nv_0) rfl dX9_reckoned_98 rfl rfl tw_75 tw_76 tw_40 tw_77 (by decide +kernel) rfl (Nat.le_of_ble_eq_true rfl) (Nat.le_of_ble_eq_true rfl) (Nat.le_of_ble_eq_true rfl) (fun rr M1 hr hle1 => ?_)
    obtain ⟨rfl, hM1⟩ := hr
    rw [oput_oput] at hM1
    obtain rfl : M1 = nv M (0, x.2 * y.2) := hM1
    exact xw_aret rfl (Or.inl ⟨_, rfl⟩) (Or.inr ⟨_, rfl⟩) dX9_reckoned_101 (fin _ (by rw [e]; rfl))
  · refine Eq.mp (congrArg (fun z => XW G 3 66 mX9_reckoned [.ref (nad Γ i), .ref wx, .ref wy] M _ _ _ _ [.int (nI z)]) e.symm) ?_
    refine xw_tableIn (off := 98) (tgt := 102) dX9_reckoned_4 (by decide +kernel) (by decide +kernel) (by decide +kernel) rfl ?_
    refine xw_aload_n dX9_reckoned_102 rfl rfl ?_
    refine xw_get (ci := 9) (k := 1) (v := .long x.2) dX9_reckoned_103 hx rfl inX8 (by decide) tw_84 (Or.inl rfl) rfl ?_
    refine xw_aload_n dX9_reckoned_106 rfl rfl ?_
    refine xw_get (ci := 9) (k := 1) (v := .long y.2) dX9_reckoned_107 hy rfl inX8 (by decide) tw_84 (Or.inl rfl) rfl ?_
    refine xw_callS (q2 := mX9_quotient) (n2 := 2) (Bs := [.long x.2, .long y.2]) (rest := []) (ct_quotient) dX9_reckoned_110 rfl tw_742 tw_743 tw_39 tw_744 (by decide +kernel) rfl (Nat.le_of_ble_eq_true rfl) (Nat.le_of_ble_eq_true rfl) (Nat.le_of_ble_eq_true rfl) (fun rr M1 hr hle1 => ?_)
    obtain ⟨rfl, rfl⟩ := hr
    exact xw_aret rfl (Or.inl ⟨_, rfl⟩) (Or.inr ⟨_, rfl⟩) dX9_reckoned_113 (fin _ (by rw [e]; rfl))
  · refine Eq.mp (congrArg (fun z => XW G 3 66 mX9_reckoned [.ref (nad Γ i), .ref wx, .ref wy] M _ _ _ _ [.int (nI z)]) e.symm) ?_
    refine xw_tableIn (off := 110) (tgt := 114) dX9_reckoned_4 (by decide +kernel) (by decide +kernel) (by decide +kernel) rfl ?_
    refine xw_new (ci := 9) (fs := [.int 0, .long 0]) tyX8 dX9_reckoned_114 rfl inX8 tyX8_ok (by decide) tw_73 tw_74 tw_40 (fun j hj => by rcases (show j = 0 ∨ j = 1 by omega) with rfl | rfl <;> rfl) ?_
    refine xw_dup dX9_reckoned_117 rfl ?_
    refine xw_iconst (v := 0) dX9_reckoned_118 (by decide) ?_
    refine xw_aload_n dX9_reckoned_119 rfl rfl ?_
    refine xw_get (ci := 9) (k := 1) (v := .long x.2) dX9_reckoned_120 (nv_new hw hx) rfl inX8 (by decide) tw_84 (Or.inl rfl) rfl ?_
    refine xw_aload_n dX9_reckoned_123 rfl rfl ?_
    refine xw_get (ci := 9) (k := 1) (v := .long y.2) dX9_reckoned_124 (nv_new hw hy) rfl inX8 (by decide) tw_84 (Or.inl rfl) rfl ?_
    refine xw_lcmp dX9_reckoned_127 ?_
    refine xw_pc (pc2 := 128) rfl ?_
    refine xw_if_ge (tgt := 135) dX9_reckoned_128 (by decide) (fun c1 => ?_) (fun c1 => ?_)
    · have h0 : ¬ x.2 < y.2 := fun z => absurd ((lg_cmp_ge _ _).mp c1) (by rw [Int64.not_le]; exact z)
      refine xw_lconst (v := 0) dX9_reckoned_135 (by decide) ?_
      refine xw_callI (q2 := mX8_init) (n2 := 2) (Bs := [.int 0, .long 0]) (rest := [.ref (Sz M)]) (ct_Value (a := Sz M) nv_0) rfl dX9_reckoned_136 rfl rfl tw_75 tw_76 tw_40 tw_77 (by decide +kernel) rfl (Nat.le_of_ble_eq_true rfl) (Nat.le_of_ble_eq_true rfl) (Nat.le_of_ble_eq_true rfl) (fun rr M1 hr hle1 => ?_)
      obtain ⟨rfl, hM1⟩ := hr
      rw [oput_oput] at hM1
      obtain rfl : M1 = nv M (0, 0) := hM1
      exact xw_aret rfl (Or.inl ⟨_, rfl⟩) (Or.inr ⟨_, rfl⟩) dX9_reckoned_139 (fin _ (by rw [e]; show _ = ((0 : Int32), if x.2 < y.2 then (1 : Int64) else 0); rw [if_neg h0]))
    · have h0 : x.2 < y.2 := Int64.not_le.mp (fun z => c1 ((lg_cmp_ge x.2 y.2).mpr z))
      refine xw_lconst (v := 1) dX9_reckoned_131 (by decide) ?_
      refine xw_goto (tgt := 136) dX9_reckoned_132 (by decide) ?_
      refine xw_callI (q2 := mX8_init) (n2 := 2) (Bs := [.int 0, .long 1]) (rest := [.ref (Sz M)]) (ct_Value (a := Sz M) nv_0) rfl dX9_reckoned_136 rfl rfl tw_75 tw_76 tw_40 tw_77 (by decide +kernel) rfl (Nat.le_of_ble_eq_true rfl) (Nat.le_of_ble_eq_true rfl) (Nat.le_of_ble_eq_true rfl) (fun rr M1 hr hle1 => ?_)
      obtain ⟨rfl, hM1⟩ := hr
      rw [oput_oput] at hM1
      obtain rfl : M1 = nv M (0, 1) := hM1
      exact xw_aret rfl (Or.inl ⟨_, rfl⟩) (Or.inr ⟨_, rfl⟩) dX9_reckoned_139 (fin _ (by rw [e]; show _ = ((0 : Int32), if x.2 < y.2 then (1 : Int64) else 0); rw [if_pos h0]))
  · refine Eq.mp (congrArg (fun z => XW G 3 66 mX9_reckoned [.ref (nad Γ i), .ref wx, .ref wy] M _ _ _ _ [.int (nI z)]) e.symm) ?_
    refine xw_tableIn (off := 136) (tgt := 140) dX9_reckoned_4 (by decide +kernel) (by decide +kernel) (by decide +kernel) rfl ?_
    refine xw_new (ci := 9) (fs := [.int 0, .long 0]) tyX8 dX9_reckoned_140 rfl inX8 tyX8_ok (by decide) tw_73 tw_74 tw_40 (fun j hj => by rcases (show j = 0 ∨ j = 1 by omega) with rfl | rfl <;> rfl) ?_
    refine xw_dup dX9_reckoned_143 rfl ?_
    refine xw_iconst (v := 0) dX9_reckoned_144 (by decide) ?_
    refine xw_aload_n dX9_reckoned_145 rfl rfl ?_
    refine xw_get (ci := 7) (k := 2) (v := .int (nd σ i).2.1) dX9_reckoned_146 (nv_new hw hnode) rfl inX6 (by decide) tw_578 (Or.inl rfl) rfl ?_
    refine xw_i2l dX9_reckoned_149 ?_
    refine xw_callI (q2 := mX8_init) (n2 := 2) (Bs := [.int 0, .long (((nd σ i).2.1).toInt64)]) (rest := [.ref (Sz M)]) (ct_Value (a := Sz M) nv_0) rfl dX9_reckoned_150 rfl rfl tw_75 tw_76 tw_40 tw_77 (by decide +kernel) rfl (Nat.le_of_ble_eq_true rfl) (Nat.le_of_ble_eq_true rfl) (Nat.le_of_ble_eq_true rfl) (fun rr M1 hr hle1 => ?_)
    obtain ⟨rfl, hM1⟩ := hr
    rw [oput_oput] at hM1
    obtain rfl : M1 = nv M (0, (nd σ i).2.1.toInt64) := hM1
    exact xw_aret rfl (Or.inl ⟨_, rfl⟩) (Or.inr ⟨_, rfl⟩) dX9_reckoned_153 (fin _ (by rw [e]; rfl))
theorem ct_at (h : Rep M A Γ σ γ b) {x y : Int64} : CT G 0 0 mX2_at [.ref (aC A), .long x, .long y] M (fun r M1 => M1 = M ∧ ((r = some .null ∧ cix σ x y = none) ∨ ∃ d a, r = some (.ref a) ∧ cix σ x y = some d ∧ gcd γ d = some a)) := by
  refine ct_go (by decide +kernel) (Nat.le_of_ble_eq_true rfl) (L := [(0, .ref (aC A)), (1, .long x), (3, .long y)]) rfl ?_
  obtain ⟨k1, ⟨k2, -⟩, ⟨fl, k4, k5⟩, -, k7, k8⟩ := h.2.1.2.2.2.2.1
  obtain ⟨hA40, hLe, -⟩ := h.2.2.2.2.2.1
  refine xw_lload_n dX2_at_0 rfl rfl ?_
  refine xw_lconst (v := 0) dX2_at_1 (by decide) ?_
  refine xw_lcmp dX2_at_2 ?_
  refine xw_if_lt (tgt := 27) dX2_at_3 (by decide) (fun c1 => ?_) (fun c1 => ?_)
  · have h1 : x < 0 := (lg_cmp_lt _ _).mp c1
    refine xw_null dX2_at_27 ?_
    exact xw_aret rfl (Or.inl ⟨_, rfl⟩) (Or.inl rfl) dX2_at_28 ⟨rfl, Or.inl ⟨rfl, by unfold cix; rw [if_neg (fun z => z.1 h1)]⟩⟩
  · have h1 : ¬ x < 0 := fun z => c1 ((lg_cmp_lt _ _).mpr z)
    refine xw_lload_n dX2_at_6 rfl rfl ?_
    refine xw_aload_n dX2_at_7 rfl rfl ?_
    refine xw_get (ci := 3) (k := 3) (v := .int (nI (sA σ))) dX2_at_8 k1 rfl inX2 (by decide) tw_169 (Or.inl rfl) rfl ?_
    refine xw_i2l dX2_at_11 ?_
    refine xw_lcmp dX2_at_12 ?_
    refine xw_pc (pc2 := 13) rfl ?_
    rw [nI_l (show sA σ < 2 ^ 31 by omega)]
    refine xw_if_ge (tgt := 27) dX2_at_13 (by decide) (fun c2 => ?_) (fun c2 => ?_)
    · have h2 : ¬ x < lN (sA σ) := by have := (lg_cmp_ge _ _).mp c2; rw [Int64.not_lt]; exact this
      refine xw_null dX2_at_27 ?_
      exact xw_aret rfl (Or.inl ⟨_, rfl⟩) (Or.inl rfl) dX2_at_28 ⟨rfl, Or.inl ⟨rfl, by unfold cix; rw [if_neg (fun z => h2 z.2.1)]⟩⟩
    · have h2 : x < lN (sA σ) := Int64.not_le.mp (fun z => c2 ((lg_cmp_ge x (lN (sA σ))).mpr z))
      obtain ⟨a, ha, rfl⟩ := pk_lOf h1
      have hal : a < sA σ := (pk_lLT ha (by omega)).mp h2
      have hcl : (lN a).toNatClampNeg = a := lN_clamp ha
      refine xw_lload_n dX2_at_16 rfl rfl ?_
      refine xw_aload_n dX2_at_17 rfl rfl ?_
      refine xw_get (ci := 3) (k := 2) (v := .ref (aL A)) dX2_at_18 k1 rfl inX2 (by decide) tw_168 (Or.inl rfl) rfl ?_
      refine xw_ilen dX2_at_21 k4 ?_
      refine xw_i2l dX2_at_22 ?_
      refine xw_lcmp dX2_at_23 ?_
      rw [nI_l (show 40 < 2 ^ 31 by decide)]
      refine xw_if_lt (tgt := 29) dX2_at_24 (by decide) (fun _ => ?_) (fun zz => absurd ((lg_cmp_lt _ _).mpr ((pk_lLT ha (by decide)).mpr (by omega))) zz)
      refine xw_lload_n dX2_at_29 rfl rfl ?_
      refine xw_lconst (v := 0) dX2_at_30 (by decide) ?_
      refine xw_lcmp dX2_at_31 ?_
      refine xw_if_lt (tgt := 48) dX2_at_32 (by decide) (fun c3 => ?_) (fun c3 => ?_)
      · have h3 : y < 0 := (lg_cmp_lt _ _).mp c3
        refine xw_null dX2_at_48 ?_
        exact xw_aret rfl (Or.inl ⟨_, rfl⟩) (Or.inl rfl) dX2_at_49 ⟨rfl, Or.inl ⟨rfl, by unfold cix; rw [if_neg (fun z => z.2.2.1 h3)]⟩⟩
      · have h3 : ¬ y < 0 := fun z => c3 ((lg_cmp_lt _ _).mpr z)
        refine xw_lload_n dX2_at_35 rfl rfl ?_
        refine xw_aload_n dX2_at_36 rfl rfl ?_
        refine xw_get (ci := 3) (k := 2) (v := .ref (aL A)) dX2_at_37 k1 rfl inX2 (by decide) tw_168 (Or.inl rfl) rfl ?_
        refine xw_lload_n dX2_at_40 rfl rfl ?_
        refine xw_l2i dX2_at_41 ?_
        refine xw_pc (pc2 := 42) rfl ?_
        rw [lN_i]
        refine xw_iald dX2_at_42 k4 (vp_in_nI (show a < 40 by omega) (by decide)) ?_
        rw [nI_clamp (by omega), k5 a hal]
        refine xw_i2l dX2_at_43 ?_
        refine xw_lcmp dX2_at_44 ?_
        rw [nI_l (show sLe σ a < 2 ^ 31 by have := hLe a hal; omega)]
        refine xw_if_lt (tgt := 50) dX2_at_45 (by decide) (fun c4 => ?_) (fun c4 => ?_)
        · have h4 : y < lN (sLe σ a) := (lg_cmp_lt _ _).mp c4
          obtain ⟨j, hj, rfl⟩ := pk_lOf h3
          have hl8 := hLe a hal
          have hjl : j < sLe σ a := (pk_lLT hj (by omega)).mp h4
          obtain ⟨ca, hca⟩ := k8 a j hal hjl
          refine xw_lload_n dX2_at_50 rfl rfl ?_
          refine xw_l2i dX2_at_51 ?_
          refine xw_bipush (v := 8) dX2_at_52 (by decide) ?_
          refine xw_imul dX2_at_54 ?_
          refine xw_lload_n dX2_at_55 rfl rfl ?_
          refine xw_l2i dX2_at_56 ?_
          refine xw_iadd dX2_at_57 ?_
          rw [lN_i, lN_i, show nI a * 8 + nI j = nI (8 * a + j) from by rw [show (8 : Int32) = nI 8 from by decide +kernel, pk_mul, nI_add, Nat.mul_comm]]
          refine xw_istore (L2 := [(5, .int (nI (8 * a + j))), (0, .ref (aC A)), (1, .long (lN a)), (3, .long (lN j))]) dX2_at_58 (by decide) rfl ?_
          refine xw_iload dX2_at_60 rfl ?_
          refine xw_aload_n dX2_at_62 rfl rfl ?_
          refine xw_get (ci := 3) (k := 1) (v := .ref (aW A)) dX2_at_63 k1 rfl inX2 (by decide) tw_167 (Or.inl rfl) rfl ?_
          refine xw_pc (pc2 := 66) rfl ?_
          refine xw_rlen dX2_at_66 k2 ?_
          refine xw_icmp_ge (tgt := 80) dX2_at_67 (by decide) (fun zz => absurd zz (show ¬ nI 320 ≤ nI (8 * a + j) from nI_ge (by omega) (by decide))) (fun _ => ?_)
          refine xw_aload_n dX2_at_70 rfl rfl ?_
          refine xw_get (ci := 3) (k := 1) (v := .ref (aW A)) dX2_at_71 k1 rfl inX2 (by decide) tw_167 (Or.inl rfl) rfl ?_
          refine xw_iload dX2_at_74 rfl ?_
          refine xw_aald (v := .ref ca) dX2_at_76 k2 (vp_in_nI (show 8 * a + j < 320 by omega) (by decide)) (by rw [nI_clamp (by omega), hca]; rfl) ?_
          refine xw_goto (tgt := 81) dX2_at_77 (by decide) ?_
          refine xw_aret rfl (Or.inl ⟨_, rfl⟩) (Or.inr ⟨_, rfl⟩) dX2_at_81 ⟨rfl, Or.inr ⟨8 * a + j, ca, rfl, ?_, hca⟩⟩
          unfold cix
          rw [hcl, lN_clamp hj, if_pos ⟨h1, h2, h3, h4⟩]
        · have h4 : ¬ y < lN (sLe σ a) := fun z => c4 ((lg_cmp_lt _ _).mpr z)
          refine xw_null dX2_at_48 ?_
          exact xw_aret rfl (Or.inl ⟨_, rfl⟩) (Or.inl rfl) dX2_at_49 ⟨rfl, Or.inl ⟨rfl, by unfold cix; rw [hcl, if_neg (fun z => h4 z.2.2.2)]⟩⟩
end RECK
