/-! THE REFERENCE: a new object -/
def alR : List Nat := [2, 3, 4, 5, 6, 7, 10, 11, 12, 14, 15, 16, 18, 19, 20, 21, 22, 24, 25, 26, 27, 29, 30, 31, 33, 34, 35, 39, 40]
def pos (k : Nat) : Nat := alR.idxOf k
def sumL (n : Nat) : Nat := ((alR.take n).map (fun k => ilen k + jlen k)).sum
def c11 (a : Nat) : Nat → Nat → Prop := fun c x => c = 11 ∧ x = a
theorem len41 (k : Nat) (h : 41 ≤ k) : ilen k = 0 ∧ jlen k = 0 := by
  unfold ilen jlen
  rw [List.getD_eq_getElem?_getD, List.getD_eq_getElem?_getD, List.getElem?_eq_none (by show 41 ≤ k; exact h), List.getElem?_eq_none (by show 41 ≤ k; exact h)]
  exact ⟨rfl, rfl⟩
theorem is41 {k : Nat} (h : (isI k || isJ k) = true) : k < 41 := by
  rcases Nat.lt_or_ge k 41 with z | z
  · exact z
  · obtain ⟨h1, h2⟩ := len41 k z
    unfold isI isJ at h
    rw [h1, h2] at h
    cases h
theorem pos_inj0 : ∀ i, i < 41 → ∀ j, j < 41 → (isI i || isJ i) = true → (isI j || isJ j) = true → pos i = pos j → i = j := by decide +kernel
theorem pos_inj {i j : Nat} (hi : (isI i || isJ i) = true) (hj : (isI j || isJ j) = true) (h : pos i = pos j) : i = j := pos_inj0 i (is41 hi) j (is41 hj) hi hj h
theorem pos_lt0 : ∀ i, i < 41 → (isI i || isJ i) = true → pos i < 29 := by decide +kernel
theorem ij0 : ∀ k, k < 41 → isI k = true → isJ k = false := by decide +kernel
/-- the object's fields: n arrays are made, c contexts -/
def fld (z n : Nat) (c : Int32) (k : Nat) : Value := if (isI k || isJ k) = true then (if pos k < n then .ref (z + pos k) else .null) else if k = 9 then .int c else .int 0
def fl41 (z n : Nat) (c : Int32) : List Value := (List.range 41).map (fld z n c)
theorem fl41_len (z n : Nat) (c : Int32) : (fl41 z n c).length = 41 := by unfold fl41; rw [List.length_map, List.length_range]
theorem fl41_at {z n k : Nat} {c : Int32} (h : k < 41) : (fl41 z n c)[k]? = some (fld z n c k) := by unfold fl41; rw [List.getElem?_map, List.getElem?_range h]; rfl
theorem fl41_ext {z n z' n' : Nat} {c c' : Int32} {k : Nat} {v : Value} (hk : k < 41) (hv : fld z' n' c' k = v) (h : ∀ i, i < 41 → i ≠ k → fld z n c i = fld z' n' c' i) : (fl41 z n c).set k v = fl41 z' n' c' := by
  refine List.ext_getElem? fun i => ?_
  rw [List.getElem?_set]
  by_cases e : k = i
  · subst e
    rw [if_pos rfl, if_pos (by rw [fl41_len]; exact hk), fl41_at hk, hv]
  · rw [if_neg e]
    by_cases hi : i < 41
    · rw [fl41_at hi, fl41_at hi, h i hi (fun z => e z.symm)]
    · rw [List.getElem?_eq_none (by rw [fl41_len]; omega), List.getElem?_eq_none (by rw [fl41_len]; omega)]
theorem fl41_set {z n k : Nat} {c : Int32} (hk : (isI k || isJ k) = true) (hp : pos k = n) : (fl41 z n c).set k (.ref (z + n)) = fl41 z (n + 1) c := by
  refine fl41_ext (is41 hk) ?_ fun i hi hn => ?_
  · unfold fld; rw [if_pos hk, if_pos (by omega), hp]
  · unfold fld
    by_cases e : (isI i || isJ i) = true
    · rw [if_pos e, if_pos e]
      have : pos i ≠ n := fun z => hn (pos_inj e hk (by omega))
      by_cases l : pos i < n
      · rw [if_pos l, if_pos (by omega)]
      · rw [if_neg l, if_neg (by omega)]
    · rw [if_neg e, if_neg e]
theorem fl41_set9 {z n : Nat} : (fl41 z n 0).set 9 (.int 1) = fl41 z n 1 := by
  refine fl41_ext (by decide) rfl fun i hi hn => ?_
  unfold fld
  rw [if_neg hn, if_neg hn]
theorem fl41_get {z k : Nat} {c : Int32} (hk : (isI k || isJ k) = true) : (fl41 z 29 c)[k]? = some (.ref (z + pos k)) := by
  rw [fl41_at (is41 hk)]; unfold fld; rw [if_pos hk, if_pos (pos_lt0 k (is41 hk) hk)]
def IV (M N : hx_S) (a n : Nat) : Prop := Sz N = Sz M + n ∧ Sl N = Sl M + sumL n ∧ Sq N = Sq M ∧ Ext M N (c11 a) no1 no1 no1 ∧ (∀ k, isI k = true → pos k < n → Si N (Sz M + pos k) = some (ilen k, fun _ => 0)) ∧ (∀ k, isJ k = true → pos k < n → Sj N (Sz M + pos k) = some (jlen k, fun _ => 0))
section MINIT
variable {G : hx_G} {M N M1 : hx_S} {a n k L : Nat} {x : Option (List Value)}
theorem IV.i (h : IV M N a n) (hw : Wf N) (hk : isI k = true) (hp : pos k = n) (hl : ilen k = L) (hL : sumL (n + 1) = sumL n + L) : IV M (oput (iput (grow N L 20) (Sz N) (some (L, fun _ => 0))) 11 a x) a (n + 1) := by
  subst hl
  obtain ⟨h1, h2, h3, h4, h5, h6⟩ := h
  refine ⟨by show Sz N + 1 = _; omega, by show Sl N + ilen k = _; omega, h3, h4.tr ⟨fun c b v hv hn => ?_, fun _ _ hv _ => hv, fun _ _ _ hv _ => hv, fun b v hv _ => ?_, fun _ _ hv => hv, by show Sz N ≤ Sz N + 1; omega⟩, fun j hj hjn => ?_, fun j hj hjn => ?_⟩
  · rw [So_oput, if_neg (show ¬ (c = 11 ∧ b = a) from hn)]; exact hv
  · rw [Si_oput, Si_iput, if_neg (fun z => by rw [z, hw.nsi (Nat.le_refl _)] at hv; cases hv)]; exact hv
  · rw [Si_oput, Si_iput]
    by_cases e : pos j = n
    · rw [if_pos (by omega), pos_inj (i := j) (j := k) (by rw [hj]; rfl) (by rw [hk]; rfl) (by omega)]
    · rw [if_neg (by omega)]; exact h5 j hj (by omega)
  · have : pos j ≠ n := fun e => by
      have := pos_inj (i := j) (j := k) (by rw [hj, Bool.or_true]) (by rw [hk]; rfl) (by omega)
      rw [this] at hj
      have hk41 : k < 41 := is41 (by rw [hk]; rfl)
      have := ij0 k hk41 hk
      rw [this] at hj
      cases hj
    exact h6 j hj (by omega)
theorem IV.j (h : IV M N a n) (hw : Wf N) (hk : isJ k = true) (hp : pos k = n) (hl : jlen k = L) (hL : sumL (n + 1) = sumL n + L) : IV M (oput (jput (grow N L 21) (Sz N) (some (L, fun _ => 0))) 11 a x) a (n + 1) := by
  subst hl
  obtain ⟨h1, h2, h3, h4, h5, h6⟩ := h
  refine ⟨by show Sz N + 1 = _; omega, by show Sl N + jlen k = _; omega, h3, h4.tr ⟨fun c b v hv hn => ?_, fun _ _ hv _ => hv, fun _ _ _ hv _ => hv, fun b v hv _ => hv, fun b v hv => ?_, by show Sz N ≤ Sz N + 1; omega⟩, fun j hj hjn => ?_, fun j hj hjn => ?_⟩
  · rw [So_oput, if_neg (show ¬ (c = 11 ∧ b = a) from hn)]; exact hv
  · have hb := (hw.2.2.1 b v hv).2
    rw [Sj_oput, Sj_jput, if_neg (by omega)]; exact hv
  · have : pos j ≠ n := fun e => by
      have := pos_inj (i := j) (j := k) (by rw [hj]; rfl) (by rw [hk, Bool.or_true]) (by omega)
      rw [this] at hj
      have hk41 : k < 41 := is41 (by rw [hk, Bool.or_true])
      have := ij0 k hk41 hj
      rw [this] at hk
      cases hk
    exact h5 j hj (by omega)
  · rw [Sj_oput, Sj_jput]
    by_cases e : pos j = n
    · rw [if_pos (by omega), pos_inj (i := j) (j := k) (by rw [hj, Bool.or_true]) (by rw [hk, Bool.or_true]) (by omega)]
    · rw [if_neg (by omega)]; exact h6 j hj (by omega)
theorem IV.o (h : IV M N a n) : IV M (oput N 11 a x) a n := by
  obtain ⟨h1, h2, h3, h4, h5, h6⟩ := h
  exact ⟨h1, h2, h3, h4.tr ext_oput, h5, h6⟩
theorem ext_in {cs : Nat → Nat → Prop} {q : Nat} {y : Option (Nat × (Nat → Int32))} (h : Ext M N cs no1 no1 no1) (hw : Wf M) (hq : Sz M ≤ q) : Ext M (iput N q y) cs no1 no1 no1 :=
  ⟨h.1, h.2.1, h.2.2.1, fun b v hv hn => by
    have hb : b ≠ q := fun z => by rw [z, hw.nsi hq] at hv; cases hv
    rw [Si_iput, if_neg hb]; exact h.2.2.2.1 b v hv hn, h.2.2.2.2.1, h.2.2.2.2.2⟩
theorem IV.z (M : hx_S) (a : Nat) : IV M M a 0 := ⟨rfl, rfl, rfl, Ext.rf M, fun k _ h => absurd h (Nat.not_lt_zero _), fun k _ h => absurd h (Nat.not_lt_zero _)⟩
theorem IV.e (h : IV M N a n) {c : Int32} (hk : (isI k || isJ k) = true) (hp : pos k = n) : (fl41 (Sz M) n c).set k (.ref (Sz N)) = fl41 (Sz M) (n + 1) c := by
  rw [h.1]; exact fl41_set hk hp
theorem fl41_flM (z : Nat) : fl41 z 29 1 = flM (fun k => z + pos k) (fun j => if j = 9 then 1 else 0) := by
  refine List.ext_getElem? fun i => ?_
  by_cases hi : i < 41
  · rw [fl41_at hi]
    rcases (show i = 0 ∨ i = 1 ∨ i = 2 ∨ i = 3 ∨ i = 4 ∨ i = 5 ∨ i = 6 ∨ i = 7 ∨ i = 8 ∨ i = 9 ∨ i = 10 ∨ i = 11 ∨ i = 12 ∨ i = 13 ∨ i = 14 ∨ i = 15 ∨ i = 16 ∨ i = 17 ∨ i = 18 ∨ i = 19 ∨ i = 20 ∨ i = 21 ∨ i = 22 ∨ i = 23 ∨ i = 24 ∨ i = 25 ∨ i = 26 ∨ i = 27 ∨ i = 28 ∨ i = 29 ∨ i = 30 ∨ i = 31 ∨ i = 32 ∨ i = 33 ∨ i = 34 ∨ i = 35 ∨ i = 36 ∨ i = 37 ∨ i = 38 ∨ i = 39 ∨ i = 40 by omega) with rfl | rfl | rfl | rfl | rfl | rfl | rfl | rfl | rfl | rfl | rfl | rfl | rfl | rfl | rfl | rfl | rfl | rfl | rfl | rfl | rfl | rfl | rfl | rfl | rfl | rfl | rfl | rfl | rfl | rfl | rfl | rfl | rfl | rfl | rfl | rfl | rfl | rfl | rfl | rfl | rfl <;> rfl
  · rw [List.getElem?_eq_none (by rw [fl41_len]; omega), List.getElem?_eq_none (by show 41 ≤ i; omega)]
/-- a new object of the reference's -/
def ρ0 : hr_S := ((fun j => if j = 9 then 1 else 0), (fun _ _ => 0), (fun _ _ => 0))
theorem RM.zero {B : Nat → Nat} (h : RW M a B ρ0) : RM (iput M (B 10) (some (ilen 10, upd (fun _ => 0) 0 (-1)))) a B σ0 0 (fun _ => 0) (fun _ => 0) := by
  refine ⟨rI ρ0 10 (upd (fun _ => 0) 0 (-1)), [], h.iset (k := 10) rfl, ⟨rfl, rfl, rfl⟩, ⟨⟨rfl, fun i x hx => by cases hx⟩, ⟨rfl, fun j e he => ?_⟩, ⟨rfl, fun k hk => absurd hk (Nat.not_lt_zero _), fun c hc => absurd hc (Nat.not_lt_zero _)⟩, ⟨rfl, fun k x hx => by cases hx⟩, ⟨rfl, fun k x hx => by cases hx⟩, ⟨rfl, fun k x hx => by cases hx⟩, ⟨rfl, rfl, rfl, rfl⟩⟩, ⟨rfl, fun k x hx => by cases hx⟩, ⟨List.nodup_nil, fun i c p v => ⟨fun z => (by cases z), fun z => (by cases z)⟩⟩⟩
  cases j with
  | zero => cases he; exact ⟨rfl, rfl, rfl⟩
  | succ j => cases he
theorem ct_Model (ho : So M 11 a = some (fl41 (Sz M) 0 0)) : CT G 1 20 mX10_init [.ref a] M (fun r M1 => r = none ∧ ∃ B, (∀ k, (isI k || isJ k) = true → Sz M ≤ B k ∧ B k < Sz M + 29) ∧ RM M1 a B σ0 0 (fun _ => 0) (fun _ => 0) ∧ Sz M1 = Sz M + 29 ∧ Sl M1 = Sl M + sumL 29 ∧ Sq M1 = Sq M ∧ Ext M M1 (c11 a) no1 no1 no1) := by
  refine ct_wf fun hwM => ?_
  refine ct_go (by decide +kernel) (Nat.le_of_ble_eq_true rfl) (L := [(0, .ref a)]) rfl ?_
  refine xw_aload_n dX10_init_0 rfl rfl ?_
  refine xw_obj dX10_init_1 tw_790 tw_71 tw_72 (Nat.le_of_ble_eq_true rfl) (Nat.le_of_ble_eq_true rfl) ?_
  refine xw_aload_n dX10_init_4 rfl rfl ?_
  refine xw_bipush (v := 40) dX10_init_5 (by decide) ?_
  refine xw_wf fun hw0 => ?_
  refine xw_newI (N := 40) tw_157 dX10_init_7 (by decide) (by decide) (by decide) ?_
  refine xw_putF (ci := 11) (k := 2) tyX10 dX10_init_9 (show So (iput (grow M 40 20) (Sz M) _) 11 a = some (fl41 (Sz M) 0 0) from ho) rfl inX10 tyX10_ok nmX10 (by decide) tw_793 (Or.inl rfl) rfl rfl rfl rfl rfl rfl (by rw [fl41_len]; decide) ?_
  rw [(IV.z M a).e (k := 2) rfl (by decide +kernel)]
  have hv1 : IV M (oput (iput (grow M 40 20) (Sz M) (some (40, fun _ => 0))) 11 a (some (fl41 (Sz M) 1 0))) a 1 := (IV.z M a).i (k := 2) hw0 rfl (by decide +kernel) rfl (by decide +kernel)
  have hT1 : So (oput (iput (grow M 40 20) (Sz M) (some (40, fun _ => 0))) 11 a (some (fl41 (Sz M) 1 0))) 11 a = some (fl41 (Sz M) 1 0) := by rw [So_oput, if_pos ⟨rfl, rfl⟩]
  clear hw0 
  generalize oput (iput (grow M 40 20) (Sz M) (some (40, fun _ => 0))) 11 a (some (fl41 (Sz M) 1 0)) = N1 at hv1 hT1 ⊢
  refine xw_aload_n dX10_init_12 rfl rfl ?_
  refine xw_bipush (v := 40) dX10_init_13 (by decide) ?_
  refine xw_wf fun hw1 => ?_
  refine xw_newI (N := 40) tw_157 dX10_init_15 (by decide) (by decide) (by decide) ?_
  refine xw_putF (ci := 11) (k := 3) tyX10 dX10_init_17 (show So (iput (grow N1 40 20) (Sz N1) _) 11 a = some (fl41 (Sz M) 1 0) from hT1) rfl inX10 tyX10_ok nmX10 (by decide) tw_794 (Or.inl rfl) rfl rfl rfl rfl rfl rfl (by rw [fl41_len]; decide) ?_
  rw [hv1.e (k := 3) rfl (by decide +kernel)]
  have hv2 : IV M (oput (iput (grow N1 40 20) (Sz N1) (some (40, fun _ => 0))) 11 a (some (fl41 (Sz M) 2 0))) a 2 := hv1.i (k := 3) hw1 rfl (by decide +kernel) rfl (by decide +kernel)
  have hT2 : So (oput (iput (grow N1 40 20) (Sz N1) (some (40, fun _ => 0))) 11 a (some (fl41 (Sz M) 2 0))) 11 a = some (fl41 (Sz M) 2 0) := by rw [So_oput, if_pos ⟨rfl, rfl⟩]
  clear hw1 hT1 hv1
  generalize oput (iput (grow N1 40 20) (Sz N1) (some (40, fun _ => 0))) 11 a (some (fl41 (Sz M) 2 0)) = N2 at hv2 hT2 ⊢
  refine xw_aload_n dX10_init_20 rfl rfl ?_
  refine xw_bipush (v := 40) dX10_init_21 (by decide) ?_
  refine xw_wf fun hw2 => ?_
  refine xw_newI (N := 40) tw_157 dX10_init_23 (by decide) (by decide) (by decide) ?_
  refine xw_putF (ci := 11) (k := 4) tyX10 dX10_init_25 (show So (iput (grow N2 40 20) (Sz N2) _) 11 a = some (fl41 (Sz M) 2 0) from hT2) rfl inX10 tyX10_ok nmX10 (by decide) tw_795 (Or.inl rfl) rfl rfl rfl rfl rfl rfl (by rw [fl41_len]; decide) ?_
  rw [hv2.e (k := 4) rfl (by decide +kernel)]
  have hv3 : IV M (oput (iput (grow N2 40 20) (Sz N2) (some (40, fun _ => 0))) 11 a (some (fl41 (Sz M) 3 0))) a 3 := hv2.i (k := 4) hw2 rfl (by decide +kernel) rfl (by decide +kernel)
  have hT3 : So (oput (iput (grow N2 40 20) (Sz N2) (some (40, fun _ => 0))) 11 a (some (fl41 (Sz M) 3 0))) 11 a = some (fl41 (Sz M) 3 0) := by rw [So_oput, if_pos ⟨rfl, rfl⟩]
  clear hw2 hT2 hv2
  generalize oput (iput (grow N2 40 20) (Sz N2) (some (40, fun _ => 0))) 11 a (some (fl41 (Sz M) 3 0)) = N3 at hv3 hT3 ⊢
  refine xw_aload_n dX10_init_28 rfl rfl ?_
  refine xw_sipush (v := 240) dX10_init_29 (by decide) ?_
  refine xw_wf fun hw3 => ?_
  refine xw_newI (N := 240) tw_157 dX10_init_32 (by decide) (by decide) (by decide) ?_
  refine xw_putF (ci := 11) (k := 5) tyX10 dX10_init_34 (show So (iput (grow N3 240 20) (Sz N3) _) 11 a = some (fl41 (Sz M) 3 0) from hT3) rfl inX10 tyX10_ok nmX10 (by decide) tw_796 (Or.inl rfl) rfl rfl rfl rfl rfl rfl (by rw [fl41_len]; decide) ?_
  rw [hv3.e (k := 5) rfl (by decide +kernel)]
  have hv4 : IV M (oput (iput (grow N3 240 20) (Sz N3) (some (240, fun _ => 0))) 11 a (some (fl41 (Sz M) 4 0))) a 4 := hv3.i (k := 5) hw3 rfl (by decide +kernel) rfl (by decide +kernel)
  have hT4 : So (oput (iput (grow N3 240 20) (Sz N3) (some (240, fun _ => 0))) 11 a (some (fl41 (Sz M) 4 0))) 11 a = some (fl41 (Sz M) 4 0) := by rw [So_oput, if_pos ⟨rfl, rfl⟩]
  clear hw3 hT3 hv3
  generalize oput (iput (grow N3 240 20) (Sz N3) (some (240, fun _ => 0))) 11 a (some (fl41 (Sz M) 4 0)) = N4 at hv4 hT4 ⊢
  refine xw_aload_n dX10_init_37 rfl rfl ?_
  refine xw_sipush (v := 240) dX10_init_38 (by decide) ?_
  refine xw_wf fun hw4 => ?_
  refine xw_newI (N := 240) tw_157 dX10_init_41 (by decide) (by decide) (by decide) ?_
  refine xw_putF (ci := 11) (k := 6) tyX10 dX10_init_43 (show So (iput (grow N4 240 20) (Sz N4) _) 11 a = some (fl41 (Sz M) 4 0) from hT4) rfl inX10 tyX10_ok nmX10 (by decide) tw_797 (Or.inl rfl) rfl rfl rfl rfl rfl rfl (by rw [fl41_len]; decide) ?_
  rw [hv4.e (k := 6) rfl (by decide +kernel)]
  have hv5 : IV M (oput (iput (grow N4 240 20) (Sz N4) (some (240, fun _ => 0))) 11 a (some (fl41 (Sz M) 5 0))) a 5 := hv4.i (k := 6) hw4 rfl (by decide +kernel) rfl (by decide +kernel)
  have hT5 : So (oput (iput (grow N4 240 20) (Sz N4) (some (240, fun _ => 0))) 11 a (some (fl41 (Sz M) 5 0))) 11 a = some (fl41 (Sz M) 5 0) := by rw [So_oput, if_pos ⟨rfl, rfl⟩]
  clear hw4 hT4 hv4
  generalize oput (iput (grow N4 240 20) (Sz N4) (some (240, fun _ => 0))) 11 a (some (fl41 (Sz M) 5 0)) = N5 at hv5 hT5 ⊢
  refine xw_aload_n dX10_init_46 rfl rfl ?_
  refine xw_sipush (v := 240) dX10_init_47 (by decide) ?_
  refine xw_pc (pc2 := 50) rfl ?_
  refine xw_wf fun hw5 => ?_
  refine xw_newI (N := 240) tw_157 dX10_init_50 (by decide) (by decide) (by decide) ?_
  refine xw_putF (ci := 11) (k := 7) tyX10 dX10_init_52 (show So (iput (grow N5 240 20) (Sz N5) _) 11 a = some (fl41 (Sz M) 5 0) from hT5) rfl inX10 tyX10_ok nmX10 (by decide) tw_798 (Or.inl rfl) rfl rfl rfl rfl rfl rfl (by rw [fl41_len]; decide) ?_
  rw [hv5.e (k := 7) rfl (by decide +kernel)]
  have hv6 : IV M (oput (iput (grow N5 240 20) (Sz N5) (some (240, fun _ => 0))) 11 a (some (fl41 (Sz M) 6 0))) a 6 := hv5.i (k := 7) hw5 rfl (by decide +kernel) rfl (by decide +kernel)
  have hT6 : So (oput (iput (grow N5 240 20) (Sz N5) (some (240, fun _ => 0))) 11 a (some (fl41 (Sz M) 6 0))) 11 a = some (fl41 (Sz M) 6 0) := by rw [So_oput, if_pos ⟨rfl, rfl⟩]
  clear hw5 hT5 hv5
  generalize oput (iput (grow N5 240 20) (Sz N5) (some (240, fun _ => 0))) 11 a (some (fl41 (Sz M) 6 0)) = N6 at hv6 hT6 ⊢
  refine xw_aload_n dX10_init_55 rfl rfl ?_
  refine xw_iconst (v := 1) dX10_init_56 (by decide) ?_
  refine xw_put (ci := 11) (k := 9) tyX10 dX10_init_57 hT6 rfl inX10 tyX10_ok nmX10 (by decide) tw_800 (Or.inl rfl) rfl rfl rfl rfl (by rw [fl41_len]; decide) ?_
  rw [fl41_set9]
  have hvc : IV M (oput N6 11 a (some (fl41 (Sz M) 6 1))) a 6 := hv6.o
  have hTc : So (oput N6 11 a (some (fl41 (Sz M) 6 1))) 11 a = some (fl41 (Sz M) 6 1) := by rw [So_oput, if_pos ⟨rfl, rfl⟩]
  generalize oput N6 11 a (some (fl41 (Sz M) 6 1)) = Nc at hvc hTc ⊢
  refine xw_aload_n dX10_init_60 rfl rfl ?_
  refine xw_sipush (v := 151) dX10_init_61 (by decide) ?_
  refine xw_wf fun hw6 => ?_
  refine xw_newI (N := 151) tw_157 dX10_init_64 (by decide) (by decide) (by decide) ?_
  refine xw_putF (ci := 11) (k := 10) tyX10 dX10_init_66 (show So (iput (grow Nc 151 20) (Sz Nc) _) 11 a = some (fl41 (Sz M) 6 1) from hTc) rfl inX10 tyX10_ok nmX10 (by decide) tw_801 (Or.inl rfl) rfl rfl rfl rfl rfl rfl (by rw [fl41_len]; decide) ?_
  rw [hvc.e (k := 10) rfl (by decide +kernel)]
  have hv7 : IV M (oput (iput (grow Nc 151 20) (Sz Nc) (some (151, fun _ => 0))) 11 a (some (fl41 (Sz M) 7 1))) a 7 := hvc.i (k := 10) hw6 rfl (by decide +kernel) rfl (by decide +kernel)
  have hT7 : So (oput (iput (grow Nc 151 20) (Sz Nc) (some (151, fun _ => 0))) 11 a (some (fl41 (Sz M) 7 1))) 11 a = some (fl41 (Sz M) 7 1) := by rw [So_oput, if_pos ⟨rfl, rfl⟩]
  clear hw6 hTc hvc
  generalize oput (iput (grow Nc 151 20) (Sz Nc) (some (151, fun _ => 0))) 11 a (some (fl41 (Sz M) 7 1)) = N7 at hv7 hT7 ⊢
  refine xw_aload_n dX10_init_69 rfl rfl ?_
  refine xw_sipush (v := 151) dX10_init_70 (by decide) ?_
  refine xw_wf fun hw7 => ?_
  refine xw_newI (N := 151) tw_157 dX10_init_73 (by decide) (by decide) (by decide) ?_
  refine xw_putF (ci := 11) (k := 11) tyX10 dX10_init_75 (show So (iput (grow N7 151 20) (Sz N7) _) 11 a = some (fl41 (Sz M) 7 1) from hT7) rfl inX10 tyX10_ok nmX10 (by decide) tw_802 (Or.inl rfl) rfl rfl rfl rfl rfl rfl (by rw [fl41_len]; decide) ?_
  rw [hv7.e (k := 11) rfl (by decide +kernel)]
  have hv8 : IV M (oput (iput (grow N7 151 20) (Sz N7) (some (151, fun _ => 0))) 11 a (some (fl41 (Sz M) 8 1))) a 8 := hv7.i (k := 11) hw7 rfl (by decide +kernel) rfl (by decide +kernel)
  have hT8 : So (oput (iput (grow N7 151 20) (Sz N7) (some (151, fun _ => 0))) 11 a (some (fl41 (Sz M) 8 1))) 11 a = some (fl41 (Sz M) 8 1) := by rw [So_oput, if_pos ⟨rfl, rfl⟩]
  clear hw7 hT7 hv7
  generalize oput (iput (grow N7 151 20) (Sz N7) (some (151, fun _ => 0))) 11 a (some (fl41 (Sz M) 8 1)) = N8 at hv8 hT8 ⊢
  refine xw_aload_n dX10_init_78 rfl rfl ?_
  refine xw_sipush (v := 151) dX10_init_79 (by decide) ?_
  refine xw_wf fun hw8 => ?_
  refine xw_newI (N := 151) tw_157 dX10_init_82 (by decide) (by decide) (by decide) ?_
  refine xw_putF (ci := 11) (k := 12) tyX10 dX10_init_84 (show So (iput (grow N8 151 20) (Sz N8) _) 11 a = some (fl41 (Sz M) 8 1) from hT8) rfl inX10 tyX10_ok nmX10 (by decide) tw_803 (Or.inl rfl) rfl rfl rfl rfl rfl rfl (by rw [fl41_len]; decide) ?_
  rw [hv8.e (k := 12) rfl (by decide +kernel)]
  have hv9 : IV M (oput (iput (grow N8 151 20) (Sz N8) (some (151, fun _ => 0))) 11 a (some (fl41 (Sz M) 9 1))) a 9 := hv8.i (k := 12) hw8 rfl (by decide +kernel) rfl (by decide +kernel)
  have hT9 : So (oput (iput (grow N8 151 20) (Sz N8) (some (151, fun _ => 0))) 11 a (some (fl41 (Sz M) 9 1))) 11 a = some (fl41 (Sz M) 9 1) := by rw [So_oput, if_pos ⟨rfl, rfl⟩]
  clear hw8 hT8 hv8
  generalize oput (iput (grow N8 151 20) (Sz N8) (some (151, fun _ => 0))) 11 a (some (fl41 (Sz M) 9 1)) = N9 at hv9 hT9 ⊢
  refine xw_aload_n dX10_init_87 rfl rfl ?_
  refine xw_bipush (v := 40) dX10_init_88 (by decide) ?_
  refine xw_wf fun hw9 => ?_
  refine xw_newI (N := 40) tw_157 dX10_init_90 (by decide) (by decide) (by decide) ?_
  refine xw_putF (ci := 11) (k := 14) tyX10 dX10_init_92 (show So (iput (grow N9 40 20) (Sz N9) _) 11 a = some (fl41 (Sz M) 9 1) from hT9) rfl inX10 tyX10_ok nmX10 (by decide) tw_805 (Or.inl rfl) rfl rfl rfl rfl rfl rfl (by rw [fl41_len]; decide) ?_
  rw [hv9.e (k := 14) rfl (by decide +kernel)]
  have hv10 : IV M (oput (iput (grow N9 40 20) (Sz N9) (some (40, fun _ => 0))) 11 a (some (fl41 (Sz M) 10 1))) a 10 := hv9.i (k := 14) hw9 rfl (by decide +kernel) rfl (by decide +kernel)
  have hT10 : So (oput (iput (grow N9 40 20) (Sz N9) (some (40, fun _ => 0))) 11 a (some (fl41 (Sz M) 10 1))) 11 a = some (fl41 (Sz M) 10 1) := by rw [So_oput, if_pos ⟨rfl, rfl⟩]
  clear hw9 hT9 hv9
  generalize oput (iput (grow N9 40 20) (Sz N9) (some (40, fun _ => 0))) 11 a (some (fl41 (Sz M) 10 1)) = N10 at hv10 hT10 ⊢
  refine xw_aload_n dX10_init_95 rfl rfl ?_
  refine xw_sipush (v := 320) dX10_init_96 (by decide) ?_
  refine xw_wf fun hw10 => ?_
  refine xw_newI (N := 320) tw_157 dX10_init_99 (by decide) (by decide) (by decide) ?_
  refine xw_putF (ci := 11) (k := 15) tyX10 dX10_init_101 (show So (iput (grow N10 320 20) (Sz N10) _) 11 a = some (fl41 (Sz M) 10 1) from hT10) rfl inX10 tyX10_ok nmX10 (by decide) tw_806 (Or.inl rfl) rfl rfl rfl rfl rfl rfl (by rw [fl41_len]; decide) ?_
  rw [hv10.e (k := 15) rfl (by decide +kernel)]
  have hv11 : IV M (oput (iput (grow N10 320 20) (Sz N10) (some (320, fun _ => 0))) 11 a (some (fl41 (Sz M) 11 1))) a 11 := hv10.i (k := 15) hw10 rfl (by decide +kernel) rfl (by decide +kernel)
  have hT11 : So (oput (iput (grow N10 320 20) (Sz N10) (some (320, fun _ => 0))) 11 a (some (fl41 (Sz M) 11 1))) 11 a = some (fl41 (Sz M) 11 1) := by rw [So_oput, if_pos ⟨rfl, rfl⟩]
  clear hw10 hT10 hv10
  generalize oput (iput (grow N10 320 20) (Sz N10) (some (320, fun _ => 0))) 11 a (some (fl41 (Sz M) 11 1)) = N11 at hv11 hT11 ⊢
  refine xw_aload_n dX10_init_104 rfl rfl ?_
  refine xw_sipush (v := 320) dX10_init_105 (by decide) ?_
  refine xw_pc (pc2 := 108) rfl ?_
  refine xw_wf fun hw11 => ?_
  refine xw_newJ (N := 320) tw_915 dX10_init_108 (by decide) (by decide) (by decide) ?_
  refine xw_putF (ci := 11) (k := 16) tyX10 dX10_init_110 (show So (jput (grow N11 320 21) (Sz N11) _) 11 a = some (fl41 (Sz M) 11 1) from hT11) rfl inX10 tyX10_ok nmX10 (by decide) tw_807 (Or.inl rfl) rfl rfl rfl rfl rfl rfl (by rw [fl41_len]; decide) ?_
  rw [hv11.e (k := 16) rfl (by decide +kernel)]
  have hv12 : IV M (oput (jput (grow N11 320 21) (Sz N11) (some (320, fun _ => 0))) 11 a (some (fl41 (Sz M) 12 1))) a 12 := hv11.j (k := 16) hw11 rfl (by decide +kernel) rfl (by decide +kernel)
  have hT12 : So (oput (jput (grow N11 320 21) (Sz N11) (some (320, fun _ => 0))) 11 a (some (fl41 (Sz M) 12 1))) 11 a = some (fl41 (Sz M) 12 1) := by rw [So_oput, if_pos ⟨rfl, rfl⟩]
  clear hw11 hT11 hv11
  generalize oput (jput (grow N11 320 21) (Sz N11) (some (320, fun _ => 0))) 11 a (some (fl41 (Sz M) 12 1)) = N12 at hv12 hT12 ⊢
  refine xw_aload_n dX10_init_113 rfl rfl ?_
  refine xw_sipush (v := 302) dX10_init_114 (by decide) ?_
  refine xw_wf fun hw12 => ?_
  refine xw_newI (N := 302) tw_157 dX10_init_117 (by decide) (by decide) (by decide) ?_
  refine xw_putF (ci := 11) (k := 18) tyX10 dX10_init_119 (show So (iput (grow N12 302 20) (Sz N12) _) 11 a = some (fl41 (Sz M) 12 1) from hT12) rfl inX10 tyX10_ok nmX10 (by decide) tw_809 (Or.inl rfl) rfl rfl rfl rfl rfl rfl (by rw [fl41_len]; decide) ?_
  rw [hv12.e (k := 18) rfl (by decide +kernel)]
  have hv13 : IV M (oput (iput (grow N12 302 20) (Sz N12) (some (302, fun _ => 0))) 11 a (some (fl41 (Sz M) 13 1))) a 13 := hv12.i (k := 18) hw12 rfl (by decide +kernel) rfl (by decide +kernel)
  have hT13 : So (oput (iput (grow N12 302 20) (Sz N12) (some (302, fun _ => 0))) 11 a (some (fl41 (Sz M) 13 1))) 11 a = some (fl41 (Sz M) 13 1) := by rw [So_oput, if_pos ⟨rfl, rfl⟩]
  clear hw12 hT12 hv12
  generalize oput (iput (grow N12 302 20) (Sz N12) (some (302, fun _ => 0))) 11 a (some (fl41 (Sz M) 13 1)) = N13 at hv13 hT13 ⊢
  refine xw_aload_n dX10_init_122 rfl rfl ?_
  refine xw_sipush (v := 302) dX10_init_123 (by decide) ?_
  refine xw_wf fun hw13 => ?_
  refine xw_newI (N := 302) tw_157 dX10_init_126 (by decide) (by decide) (by decide) ?_
  refine xw_putF (ci := 11) (k := 19) tyX10 dX10_init_128 (show So (iput (grow N13 302 20) (Sz N13) _) 11 a = some (fl41 (Sz M) 13 1) from hT13) rfl inX10 tyX10_ok nmX10 (by decide) tw_810 (Or.inl rfl) rfl rfl rfl rfl rfl rfl (by rw [fl41_len]; decide) ?_
  rw [hv13.e (k := 19) rfl (by decide +kernel)]
  have hv14 : IV M (oput (iput (grow N13 302 20) (Sz N13) (some (302, fun _ => 0))) 11 a (some (fl41 (Sz M) 14 1))) a 14 := hv13.i (k := 19) hw13 rfl (by decide +kernel) rfl (by decide +kernel)
  have hT14 : So (oput (iput (grow N13 302 20) (Sz N13) (some (302, fun _ => 0))) 11 a (some (fl41 (Sz M) 14 1))) 11 a = some (fl41 (Sz M) 14 1) := by rw [So_oput, if_pos ⟨rfl, rfl⟩]
  clear hw13 hT13 hv13
  generalize oput (iput (grow N13 302 20) (Sz N13) (some (302, fun _ => 0))) 11 a (some (fl41 (Sz M) 14 1)) = N14 at hv14 hT14 ⊢
  refine xw_aload_n dX10_init_131 rfl rfl ?_
  refine xw_sipush (v := 302) dX10_init_132 (by decide) ?_
  refine xw_wf fun hw14 => ?_
  refine xw_newI (N := 302) tw_157 dX10_init_135 (by decide) (by decide) (by decide) ?_
  refine xw_putF (ci := 11) (k := 20) tyX10 dX10_init_137 (show So (iput (grow N14 302 20) (Sz N14) _) 11 a = some (fl41 (Sz M) 14 1) from hT14) rfl inX10 tyX10_ok nmX10 (by decide) tw_811 (Or.inl rfl) rfl rfl rfl rfl rfl rfl (by rw [fl41_len]; decide) ?_
  rw [hv14.e (k := 20) rfl (by decide +kernel)]
  have hv15 : IV M (oput (iput (grow N14 302 20) (Sz N14) (some (302, fun _ => 0))) 11 a (some (fl41 (Sz M) 15 1))) a 15 := hv14.i (k := 20) hw14 rfl (by decide +kernel) rfl (by decide +kernel)
  have hT15 : So (oput (iput (grow N14 302 20) (Sz N14) (some (302, fun _ => 0))) 11 a (some (fl41 (Sz M) 15 1))) 11 a = some (fl41 (Sz M) 15 1) := by rw [So_oput, if_pos ⟨rfl, rfl⟩]
  clear hw14 hT14 hv14
  generalize oput (iput (grow N14 302 20) (Sz N14) (some (302, fun _ => 0))) 11 a (some (fl41 (Sz M) 15 1)) = N15 at hv15 hT15 ⊢
  refine xw_aload_n dX10_init_140 rfl rfl ?_
  refine xw_sipush (v := 302) dX10_init_141 (by decide) ?_
  refine xw_wf fun hw15 => ?_
  refine xw_newI (N := 302) tw_157 dX10_init_144 (by decide) (by decide) (by decide) ?_
  refine xw_putF (ci := 11) (k := 21) tyX10 dX10_init_146 (show So (iput (grow N15 302 20) (Sz N15) _) 11 a = some (fl41 (Sz M) 15 1) from hT15) rfl inX10 tyX10_ok nmX10 (by decide) tw_812 (Or.inl rfl) rfl rfl rfl rfl rfl rfl (by rw [fl41_len]; decide) ?_
  rw [hv15.e (k := 21) rfl (by decide +kernel)]
  have hv16 : IV M (oput (iput (grow N15 302 20) (Sz N15) (some (302, fun _ => 0))) 11 a (some (fl41 (Sz M) 16 1))) a 16 := hv15.i (k := 21) hw15 rfl (by decide +kernel) rfl (by decide +kernel)
  have hT16 : So (oput (iput (grow N15 302 20) (Sz N15) (some (302, fun _ => 0))) 11 a (some (fl41 (Sz M) 16 1))) 11 a = some (fl41 (Sz M) 16 1) := by rw [So_oput, if_pos ⟨rfl, rfl⟩]
  clear hw15 hT15 hv15
  generalize oput (iput (grow N15 302 20) (Sz N15) (some (302, fun _ => 0))) 11 a (some (fl41 (Sz M) 16 1)) = N16 at hv16 hT16 ⊢
  refine xw_aload_n dX10_init_149 rfl rfl ?_
  refine xw_sipush (v := 302) dX10_init_150 (by decide) ?_
  refine xw_wf fun hw16 => ?_
  refine xw_newJ (N := 302) tw_915 dX10_init_153 (by decide) (by decide) (by decide) ?_
  refine xw_putF (ci := 11) (k := 22) tyX10 dX10_init_155 (show So (jput (grow N16 302 21) (Sz N16) _) 11 a = some (fl41 (Sz M) 16 1) from hT16) rfl inX10 tyX10_ok nmX10 (by decide) tw_813 (Or.inl rfl) rfl rfl rfl rfl rfl rfl (by rw [fl41_len]; decide) ?_
  rw [hv16.e (k := 22) rfl (by decide +kernel)]
  have hv17 : IV M (oput (jput (grow N16 302 21) (Sz N16) (some (302, fun _ => 0))) 11 a (some (fl41 (Sz M) 17 1))) a 17 := hv16.j (k := 22) hw16 rfl (by decide +kernel) rfl (by decide +kernel)
  have hT17 : So (oput (jput (grow N16 302 21) (Sz N16) (some (302, fun _ => 0))) 11 a (some (fl41 (Sz M) 17 1))) 11 a = some (fl41 (Sz M) 17 1) := by rw [So_oput, if_pos ⟨rfl, rfl⟩]
  clear hw16 hT16 hv16
  generalize oput (jput (grow N16 302 21) (Sz N16) (some (302, fun _ => 0))) 11 a (some (fl41 (Sz M) 17 1)) = N17 at hv17 hT17 ⊢
  refine xw_aload_n dX10_init_158 rfl rfl ?_
  refine xw_sipush (v := 302) dX10_init_159 (by decide) ?_
  refine xw_wf fun hw17 => ?_
  refine xw_newI (N := 302) tw_157 dX10_init_162 (by decide) (by decide) (by decide) ?_
  refine xw_putF (ci := 11) (k := 24) tyX10 dX10_init_164 (show So (iput (grow N17 302 20) (Sz N17) _) 11 a = some (fl41 (Sz M) 17 1) from hT17) rfl inX10 tyX10_ok nmX10 (by decide) tw_815 (Or.inl rfl) rfl rfl rfl rfl rfl rfl (by rw [fl41_len]; decide) ?_
  rw [hv17.e (k := 24) rfl (by decide +kernel)]
  have hv18 : IV M (oput (iput (grow N17 302 20) (Sz N17) (some (302, fun _ => 0))) 11 a (some (fl41 (Sz M) 18 1))) a 18 := hv17.i (k := 24) hw17 rfl (by decide +kernel) rfl (by decide +kernel)
  have hT18 : So (oput (iput (grow N17 302 20) (Sz N17) (some (302, fun _ => 0))) 11 a (some (fl41 (Sz M) 18 1))) 11 a = some (fl41 (Sz M) 18 1) := by rw [So_oput, if_pos ⟨rfl, rfl⟩]
  clear hw17 hT17 hv17
  generalize oput (iput (grow N17 302 20) (Sz N17) (some (302, fun _ => 0))) 11 a (some (fl41 (Sz M) 18 1)) = N18 at hv18 hT18 ⊢
  refine xw_aload_n dX10_init_167 rfl rfl ?_
  refine xw_sipush (v := 302) dX10_init_168 (by decide) ?_
  refine xw_pc (pc2 := 171) rfl ?_
  refine xw_wf fun hw18 => ?_
  refine xw_newI (N := 302) tw_157 dX10_init_171 (by decide) (by decide) (by decide) ?_
  refine xw_putF (ci := 11) (k := 25) tyX10 dX10_init_173 (show So (iput (grow N18 302 20) (Sz N18) _) 11 a = some (fl41 (Sz M) 18 1) from hT18) rfl inX10 tyX10_ok nmX10 (by decide) tw_816 (Or.inl rfl) rfl rfl rfl rfl rfl rfl (by rw [fl41_len]; decide) ?_
  rw [hv18.e (k := 25) rfl (by decide +kernel)]
  have hv19 : IV M (oput (iput (grow N18 302 20) (Sz N18) (some (302, fun _ => 0))) 11 a (some (fl41 (Sz M) 19 1))) a 19 := hv18.i (k := 25) hw18 rfl (by decide +kernel) rfl (by decide +kernel)
  have hT19 : So (oput (iput (grow N18 302 20) (Sz N18) (some (302, fun _ => 0))) 11 a (some (fl41 (Sz M) 19 1))) 11 a = some (fl41 (Sz M) 19 1) := by rw [So_oput, if_pos ⟨rfl, rfl⟩]
  clear hw18 hT18 hv18
  generalize oput (iput (grow N18 302 20) (Sz N18) (some (302, fun _ => 0))) 11 a (some (fl41 (Sz M) 19 1)) = N19 at hv19 hT19 ⊢
  refine xw_aload_n dX10_init_176 rfl rfl ?_
  refine xw_sipush (v := 906) dX10_init_177 (by decide) ?_
  refine xw_wf fun hw19 => ?_
  refine xw_newI (N := 906) tw_157 dX10_init_180 (by decide) (by decide) (by decide) ?_
  refine xw_putF (ci := 11) (k := 26) tyX10 dX10_init_182 (show So (iput (grow N19 906 20) (Sz N19) _) 11 a = some (fl41 (Sz M) 19 1) from hT19) rfl inX10 tyX10_ok nmX10 (by decide) tw_817 (Or.inl rfl) rfl rfl rfl rfl rfl rfl (by rw [fl41_len]; decide) ?_
  rw [hv19.e (k := 26) rfl (by decide +kernel)]
  have hv20 : IV M (oput (iput (grow N19 906 20) (Sz N19) (some (906, fun _ => 0))) 11 a (some (fl41 (Sz M) 20 1))) a 20 := hv19.i (k := 26) hw19 rfl (by decide +kernel) rfl (by decide +kernel)
  have hT20 : So (oput (iput (grow N19 906 20) (Sz N19) (some (906, fun _ => 0))) 11 a (some (fl41 (Sz M) 20 1))) 11 a = some (fl41 (Sz M) 20 1) := by rw [So_oput, if_pos ⟨rfl, rfl⟩]
  clear hw19 hT19 hv19
  generalize oput (iput (grow N19 906 20) (Sz N19) (some (906, fun _ => 0))) 11 a (some (fl41 (Sz M) 20 1)) = N20 at hv20 hT20 ⊢
  refine xw_aload_n dX10_init_185 rfl rfl ?_
  refine xw_sipush (v := 906) dX10_init_186 (by decide) ?_
  refine xw_wf fun hw20 => ?_
  refine xw_newJ (N := 906) tw_915 dX10_init_189 (by decide) (by decide) (by decide) ?_
  refine xw_putF (ci := 11) (k := 27) tyX10 dX10_init_191 (show So (jput (grow N20 906 21) (Sz N20) _) 11 a = some (fl41 (Sz M) 20 1) from hT20) rfl inX10 tyX10_ok nmX10 (by decide) tw_818 (Or.inl rfl) rfl rfl rfl rfl rfl rfl (by rw [fl41_len]; decide) ?_
  rw [hv20.e (k := 27) rfl (by decide +kernel)]
  have hv21 : IV M (oput (jput (grow N20 906 21) (Sz N20) (some (906, fun _ => 0))) 11 a (some (fl41 (Sz M) 21 1))) a 21 := hv20.j (k := 27) hw20 rfl (by decide +kernel) rfl (by decide +kernel)
  have hT21 : So (oput (jput (grow N20 906 21) (Sz N20) (some (906, fun _ => 0))) 11 a (some (fl41 (Sz M) 21 1))) 11 a = some (fl41 (Sz M) 21 1) := by rw [So_oput, if_pos ⟨rfl, rfl⟩]
  clear hw20 hT20 hv20
  generalize oput (jput (grow N20 906 21) (Sz N20) (some (906, fun _ => 0))) 11 a (some (fl41 (Sz M) 21 1)) = N21 at hv21 hT21 ⊢
  refine xw_aload_n dX10_init_194 rfl rfl ?_
  refine xw_sipush (v := 302) dX10_init_195 (by decide) ?_
  refine xw_wf fun hw21 => ?_
  refine xw_newI (N := 302) tw_157 dX10_init_198 (by decide) (by decide) (by decide) ?_
  refine xw_putF (ci := 11) (k := 29) tyX10 dX10_init_200 (show So (iput (grow N21 302 20) (Sz N21) _) 11 a = some (fl41 (Sz M) 21 1) from hT21) rfl inX10 tyX10_ok nmX10 (by decide) tw_820 (Or.inl rfl) rfl rfl rfl rfl rfl rfl (by rw [fl41_len]; decide) ?_
  rw [hv21.e (k := 29) rfl (by decide +kernel)]
  have hv22 : IV M (oput (iput (grow N21 302 20) (Sz N21) (some (302, fun _ => 0))) 11 a (some (fl41 (Sz M) 22 1))) a 22 := hv21.i (k := 29) hw21 rfl (by decide +kernel) rfl (by decide +kernel)
  have hT22 : So (oput (iput (grow N21 302 20) (Sz N21) (some (302, fun _ => 0))) 11 a (some (fl41 (Sz M) 22 1))) 11 a = some (fl41 (Sz M) 22 1) := by rw [So_oput, if_pos ⟨rfl, rfl⟩]
  clear hw21 hT21 hv21
  generalize oput (iput (grow N21 302 20) (Sz N21) (some (302, fun _ => 0))) 11 a (some (fl41 (Sz M) 22 1)) = N22 at hv22 hT22 ⊢
  refine xw_aload_n dX10_init_203 rfl rfl ?_
  refine xw_sipush (v := 302) dX10_init_204 (by decide) ?_
  refine xw_wf fun hw22 => ?_
  refine xw_newI (N := 302) tw_157 dX10_init_207 (by decide) (by decide) (by decide) ?_
  refine xw_putF (ci := 11) (k := 30) tyX10 dX10_init_209 (show So (iput (grow N22 302 20) (Sz N22) _) 11 a = some (fl41 (Sz M) 22 1) from hT22) rfl inX10 tyX10_ok nmX10 (by decide) tw_821 (Or.inl rfl) rfl rfl rfl rfl rfl rfl (by rw [fl41_len]; decide) ?_
  rw [hv22.e (k := 30) rfl (by decide +kernel)]
  have hv23 : IV M (oput (iput (grow N22 302 20) (Sz N22) (some (302, fun _ => 0))) 11 a (some (fl41 (Sz M) 23 1))) a 23 := hv22.i (k := 30) hw22 rfl (by decide +kernel) rfl (by decide +kernel)
  have hT23 : So (oput (iput (grow N22 302 20) (Sz N22) (some (302, fun _ => 0))) 11 a (some (fl41 (Sz M) 23 1))) 11 a = some (fl41 (Sz M) 23 1) := by rw [So_oput, if_pos ⟨rfl, rfl⟩]
  clear hw22 hT22 hv22
  generalize oput (iput (grow N22 302 20) (Sz N22) (some (302, fun _ => 0))) 11 a (some (fl41 (Sz M) 23 1)) = N23 at hv23 hT23 ⊢
  refine xw_aload_n dX10_init_212 rfl rfl ?_
  refine xw_sipush (v := 302) dX10_init_213 (by decide) ?_
  refine xw_wf fun hw23 => ?_
  refine xw_newI (N := 302) tw_157 dX10_init_216 (by decide) (by decide) (by decide) ?_
  refine xw_putF (ci := 11) (k := 31) tyX10 dX10_init_218 (show So (iput (grow N23 302 20) (Sz N23) _) 11 a = some (fl41 (Sz M) 23 1) from hT23) rfl inX10 tyX10_ok nmX10 (by decide) tw_822 (Or.inl rfl) rfl rfl rfl rfl rfl rfl (by rw [fl41_len]; decide) ?_
  rw [hv23.e (k := 31) rfl (by decide +kernel)]
  have hv24 : IV M (oput (iput (grow N23 302 20) (Sz N23) (some (302, fun _ => 0))) 11 a (some (fl41 (Sz M) 24 1))) a 24 := hv23.i (k := 31) hw23 rfl (by decide +kernel) rfl (by decide +kernel)
  have hT24 : So (oput (iput (grow N23 302 20) (Sz N23) (some (302, fun _ => 0))) 11 a (some (fl41 (Sz M) 24 1))) 11 a = some (fl41 (Sz M) 24 1) := by rw [So_oput, if_pos ⟨rfl, rfl⟩]
  clear hw23 hT23 hv23
  generalize oput (iput (grow N23 302 20) (Sz N23) (some (302, fun _ => 0))) 11 a (some (fl41 (Sz M) 24 1)) = N24 at hv24 hT24 ⊢
  refine xw_aload_n dX10_init_221 rfl rfl ?_
  refine xw_sipush (v := 5001) dX10_init_222 (by decide) ?_
  refine xw_wf fun hw24 => ?_
  refine xw_newI (N := 5001) tw_157 dX10_init_225 (by decide) (by decide) (by decide) ?_
  refine xw_putF (ci := 11) (k := 33) tyX10 dX10_init_227 (show So (iput (grow N24 5001 20) (Sz N24) _) 11 a = some (fl41 (Sz M) 24 1) from hT24) rfl inX10 tyX10_ok nmX10 (by decide) tw_824 (Or.inl rfl) rfl rfl rfl rfl rfl rfl (by rw [fl41_len]; decide) ?_
  rw [hv24.e (k := 33) rfl (by decide +kernel)]
  have hv25 : IV M (oput (iput (grow N24 5001 20) (Sz N24) (some (5001, fun _ => 0))) 11 a (some (fl41 (Sz M) 25 1))) a 25 := hv24.i (k := 33) hw24 rfl (by decide +kernel) rfl (by decide +kernel)
  have hT25 : So (oput (iput (grow N24 5001 20) (Sz N24) (some (5001, fun _ => 0))) 11 a (some (fl41 (Sz M) 25 1))) 11 a = some (fl41 (Sz M) 25 1) := by rw [So_oput, if_pos ⟨rfl, rfl⟩]
  clear hw24 hT24 hv24
  generalize oput (iput (grow N24 5001 20) (Sz N24) (some (5001, fun _ => 0))) 11 a (some (fl41 (Sz M) 25 1)) = N25 at hv25 hT25 ⊢
  refine xw_aload_n dX10_init_230 rfl rfl ?_
  refine xw_sipush (v := 5001) dX10_init_231 (by decide) ?_
  refine xw_pc (pc2 := 234) rfl ?_
  refine xw_wf fun hw25 => ?_
  refine xw_newJ (N := 5001) tw_915 dX10_init_234 (by decide) (by decide) (by decide) ?_
  refine xw_putF (ci := 11) (k := 34) tyX10 dX10_init_236 (show So (jput (grow N25 5001 21) (Sz N25) _) 11 a = some (fl41 (Sz M) 25 1) from hT25) rfl inX10 tyX10_ok nmX10 (by decide) tw_825 (Or.inl rfl) rfl rfl rfl rfl rfl rfl (by rw [fl41_len]; decide) ?_
  rw [hv25.e (k := 34) rfl (by decide +kernel)]
  have hv26 : IV M (oput (jput (grow N25 5001 21) (Sz N25) (some (5001, fun _ => 0))) 11 a (some (fl41 (Sz M) 26 1))) a 26 := hv25.j (k := 34) hw25 rfl (by decide +kernel) rfl (by decide +kernel)
  have hT26 : So (oput (jput (grow N25 5001 21) (Sz N25) (some (5001, fun _ => 0))) 11 a (some (fl41 (Sz M) 26 1))) 11 a = some (fl41 (Sz M) 26 1) := by rw [So_oput, if_pos ⟨rfl, rfl⟩]
  clear hw25 hT25 hv25
  generalize oput (jput (grow N25 5001 21) (Sz N25) (some (5001, fun _ => 0))) 11 a (some (fl41 (Sz M) 26 1)) = N26 at hv26 hT26 ⊢
  refine xw_aload_n dX10_init_239 rfl rfl ?_
  refine xw_sipush (v := 5001) dX10_init_240 (by decide) ?_
  refine xw_wf fun hw26 => ?_
  refine xw_newI (N := 5001) tw_157 dX10_init_243 (by decide) (by decide) (by decide) ?_
  refine xw_putF (ci := 11) (k := 35) tyX10 dX10_init_245 (show So (iput (grow N26 5001 20) (Sz N26) _) 11 a = some (fl41 (Sz M) 26 1) from hT26) rfl inX10 tyX10_ok nmX10 (by decide) tw_826 (Or.inl rfl) rfl rfl rfl rfl rfl rfl (by rw [fl41_len]; decide) ?_
  rw [hv26.e (k := 35) rfl (by decide +kernel)]
  have hv27 : IV M (oput (iput (grow N26 5001 20) (Sz N26) (some (5001, fun _ => 0))) 11 a (some (fl41 (Sz M) 27 1))) a 27 := hv26.i (k := 35) hw26 rfl (by decide +kernel) rfl (by decide +kernel)
  have hT27 : So (oput (iput (grow N26 5001 20) (Sz N26) (some (5001, fun _ => 0))) 11 a (some (fl41 (Sz M) 27 1))) 11 a = some (fl41 (Sz M) 27 1) := by rw [So_oput, if_pos ⟨rfl, rfl⟩]
  clear hw26 hT26 hv26
  generalize oput (iput (grow N26 5001 20) (Sz N26) (some (5001, fun _ => 0))) 11 a (some (fl41 (Sz M) 27 1)) = N27 at hv27 hT27 ⊢
  refine xw_aload_n dX10_init_248 rfl rfl ?_
  refine xw_iconst (v := 3) dX10_init_249 (by decide) ?_
  refine xw_wf fun hw27 => ?_
  refine xw_newI (N := 3) tw_157 dX10_init_250 (by decide) (by decide) (by decide) ?_
  refine xw_putF (ci := 11) (k := 39) tyX10 dX10_init_252 (show So (iput (grow N27 3 20) (Sz N27) _) 11 a = some (fl41 (Sz M) 27 1) from hT27) rfl inX10 tyX10_ok nmX10 (by decide) tw_830 (Or.inl rfl) rfl rfl rfl rfl rfl rfl (by rw [fl41_len]; decide) ?_
  rw [hv27.e (k := 39) rfl (by decide +kernel)]
  have hv28 : IV M (oput (iput (grow N27 3 20) (Sz N27) (some (3, fun _ => 0))) 11 a (some (fl41 (Sz M) 28 1))) a 28 := hv27.i (k := 39) hw27 rfl (by decide +kernel) rfl (by decide +kernel)
  have hT28 : So (oput (iput (grow N27 3 20) (Sz N27) (some (3, fun _ => 0))) 11 a (some (fl41 (Sz M) 28 1))) 11 a = some (fl41 (Sz M) 28 1) := by rw [So_oput, if_pos ⟨rfl, rfl⟩]
  clear hw27 hT27 hv27
  generalize oput (iput (grow N27 3 20) (Sz N27) (some (3, fun _ => 0))) 11 a (some (fl41 (Sz M) 28 1)) = N28 at hv28 hT28 ⊢
  refine xw_aload_n dX10_init_255 rfl rfl ?_
  refine xw_iconst (v := 3) dX10_init_256 (by decide) ?_
  refine xw_wf fun hw28 => ?_
  refine xw_newJ (N := 3) tw_915 dX10_init_257 (by decide) (by decide) (by decide) ?_
  refine xw_putF (ci := 11) (k := 40) tyX10 dX10_init_259 (show So (jput (grow N28 3 21) (Sz N28) _) 11 a = some (fl41 (Sz M) 28 1) from hT28) rfl inX10 tyX10_ok nmX10 (by decide) tw_831 (Or.inl rfl) rfl rfl rfl rfl rfl rfl (by rw [fl41_len]; decide) ?_
  rw [hv28.e (k := 40) rfl (by decide +kernel)]
  have hv29 : IV M (oput (jput (grow N28 3 21) (Sz N28) (some (3, fun _ => 0))) 11 a (some (fl41 (Sz M) 29 1))) a 29 := hv28.j (k := 40) hw28 rfl (by decide +kernel) rfl (by decide +kernel)
  have hT29 : So (oput (jput (grow N28 3 21) (Sz N28) (some (3, fun _ => 0))) 11 a (some (fl41 (Sz M) 29 1))) 11 a = some (fl41 (Sz M) 29 1) := by rw [So_oput, if_pos ⟨rfl, rfl⟩]
  clear hw28 hT28 hv28
  generalize oput (jput (grow N28 3 21) (Sz N28) (some (3, fun _ => 0))) 11 a (some (fl41 (Sz M) 29 1)) = N29 at hv29 hT29 ⊢
  refine xw_aload_n dX10_init_262 rfl rfl ?_
  refine xw_get (ci := 11) (k := 10) (v := .ref (Sz M + pos 10)) dX10_init_263 hT29 rfl inX10 (by decide) tw_801 (Or.inl rfl) (fl41_get rfl) ?_
  have hs := hv29.2.2.2.2.1 10 rfl (by decide +kernel)
  refine xw_iconst (v := 0) dX10_init_266 (by decide) ?_
  refine xw_iconst (v := (-1)) dX10_init_267 (by decide) ?_
  refine xw_iast dX10_init_268 hs (show vp_in (nI 0) 151 from vp_in_nI (by decide) (by decide)) ?_
  rw [cl0]
  obtain ⟨v1, v2, v3, v4, v5, v6⟩ := hv29
  have hRW : RW N29 a (fun k => Sz M + pos k) ρ0 := ⟨by rw [hT29, fl41_flM]; rfl, fun k hk => v5 k hk (pos_lt0 k (is41 (by rw [hk]; rfl)) (by rw [hk]; rfl)), fun k hk => v6 k hk (pos_lt0 k (is41 (by rw [hk, Bool.or_true])) (by rw [hk, Bool.or_true])), fun i j hi hj e => pos_inj hi hj (Nat.add_left_cancel e)⟩
  have g1 : RM (iput N29 (Sz M + pos 10) (some (ilen 10, upd (fun _ => 0) 0 (-1)))) a (fun k => Sz M + pos k) σ0 0 (fun _ => 0) (fun _ => 0) := RM.zero hRW
  have g2 : ∀ k, (isI k || isJ k) = true → Sz M ≤ Sz M + pos k ∧ Sz M + pos k < Sz M + 29 := fun k hk => ⟨Nat.le_add_right _ _, Nat.add_lt_add_left (pos_lt0 k (is41 hk) hk) _⟩
  have g3 : Ext M (iput N29 (Sz M + pos 10) (some (ilen 10, upd (fun _ => 0) 0 (-1)))) (c11 a) no1 no1 no1 := ext_in v4 hwM (Nat.le_add_right _ _)
  have g4 : Sl (iput N29 (Sz M + pos 10) (some (ilen 10, upd (fun _ => 0) 0 (-1)))) = Sl M + sumL 29 := by rw [Sl_iput]; exact v2
  have g5 : Sq (iput N29 (Sz M + pos 10) (some (ilen 10, upd (fun _ => 0) 0 (-1)))) = Sq M := funext fun b => by rw [Sq_iput, v3]
  have g6 : Sz (iput N29 (Sz M + pos 10) (some (ilen 10, upd (fun _ => 0) 0 (-1)))) = Sz M + 29 := by rw [Sz_iput]; exact v1
  exact xw_vret rfl dX10_init_269 ⟨rfl, fun k => Sz M + pos k, g2, g1, g6, g4, g5, g3⟩
end MINIT
