/-! THE CLASS: a new object -/
def σ0 : hs_S := ([], 0, [((-1, 0, 0) : T3)], 0, (fun _ => 0), (fun _ => none), (fun _ _ => no3), 0, [], [], [], 0, 0, 0)
theorem GS.zero : GS σ0 := by
  refine ⟨?_, fun i x hx => ?_, ⟨?_, ?_, ?_, fun j e hj he => ?_⟩, ⟨?_, fun k hk => ?_, fun c v hv => ?_⟩, fun i c => ⟨?_, fun z => ?_⟩, fun x hx => ?_, fun x hx => ?_, fun x hx => ?_, ⟨?_, ?_, ?_, ?_, ?_, ?_⟩, ⟨[], List.nodup_nil, fun i c p => ⟨fun z => (by cases z), fun z => (by cases z)⟩, rfl⟩⟩
  · exact Nat.zero_le _
  · cases hx
  · exact Nat.le_refl 1
  · show (1 : Nat) ≤ 151; decide
  · rfl
  · have he' : ([((-1, 0, 0) : T3)] : List T3)[j]? = some e := he
    have q := (List.getElem?_eq_some_iff.mp he').1
    rw [List.length_singleton] at q
    omega
  · exact Nat.zero_le _
  · exact absurd hk (Nat.not_lt_zero _)
  · cases hv
  · exact GT.no
  · obtain ⟨p, hp⟩ := z
    exact absurd rfl hp
  · cases hx
  · cases hx
  · cases hx
  · exact Nat.zero_le _
  · exact Nat.zero_le _
  · exact Nat.zero_le _
  · exact Nat.zero_le _
  · exact Nat.zero_le _
  · exact Nat.zero_le _
/-- all lists are new and empty -/
def QE (z : Nat) (M : hx_S) : Prop := (∀ x, x < z → Sq M x = none) ∧ ∀ x, Sq M x = none ∨ Sq M x = some ([], 0, 0, 0)
def c10 (a : Nat) : Nat → Nat → Prop := fun c x => c = 10 ∧ x = a
def hFr (M : hx_S) (v : Nat) : hx_S := oput (nq (nq (oput (grow M 3 6) 6 (Sz M) (some [.null, .null, .null])))) 6 (Sz M) (some [.ref v, .ref (Sz M + 1), .ref (Sz M + 2)])
def hCx (M : hx_S) : hx_S := oput (iput (ni (ni (ni (oput (grow M 4 4) 4 (Sz M) (some [.null, .null, .null, .int 0])) 151) 151) 151) (Sz M + 1) (some (151, upd (fun _ => 0) 0 (-1)))) 4 (Sz M) (some [.ref (Sz M + 1), .ref (Sz M + 2), .ref (Sz M + 3), .int 1])
def hCl (M : hx_S) (v : Nat) : hx_S := oput (ni (nr (oput (grow M 4 3) 3 (Sz M) (some [.null, .null, .null, .int 0])) 0 320 (fun _ => none)) 40) 3 (Sz M) (some [.ref v, .ref (Sz M + 1), .ref (Sz M + 2), .int 0])
section INIT
variable {G : hx_G} {M M1 M2 : hx_S} {v z a : Nat} {x : Option (List Value)}
theorem QE.nq (h : QE z M) (hz : z ≤ Sz M) : QE z (nq M) := by
  refine ⟨fun x hx => ?_, fun x => ?_⟩
  · rw [Sq_nq, if_neg (by omega)]; exact h.1 x hx
  · rw [Sq_nq]
    split
    · exact Or.inr rfl
    · exact h.2 x
theorem QE.same (h : QE z M) (hs : ∀ x, Sq M1 x = Sq M x) : QE z M1 := ⟨fun x hx => by rw [hs]; exact h.1 x hx, fun x => by rw [hs]; exact h.2 x⟩
theorem ext_c10 (h : Ext M M1 no2 no1 no1 no1) : Ext M (oput M1 10 a x) (c10 a) no1 no1 no1 := (h.mono (fun _ _ => False.elim) (fun _ => id) (fun _ => id) (fun _ => id)).tr ext_oput
theorem ext_hFr (hw : Wf M) : Ext M (hFr M v) no2 no1 no1 no1 := by
  refine ⟨fun c b u h _ => ?_, fun b u h _ => ?_, fun _ _ _ h _ => h, fun _ _ h _ => h, fun _ _ h => h, by show Sz M ≤ Sz M + 1 + 1 + 1; omega⟩
  · have hb := (hw.1 c b u h).2.2
    unfold hFr
    rw [So_oput, if_neg (by omega), So_nq, So_nq, So_oput, if_neg (by omega)]
    exact h
  · have hb := (hw.2.2.2.2 b u h).2.1
    unfold hFr
    rw [Sq_oput, Sq_nq, if_neg (by show ¬ b = Sz M + 1 + 1; omega), Sq_nq, if_neg (by show ¬ b = Sz M + 1; omega)]
    exact h
theorem ext_hCx (hw : Wf M) : Ext M (hCx M) no2 no1 no1 no1 := by
  refine ⟨fun c b u h _ => ?_, fun b u h _ => h, fun _ _ _ h _ => h, fun b u h _ => ?_, fun _ _ h => h, by show Sz M ≤ Sz M + 1 + 1 + 1 + 1; omega⟩
  · have hb := (hw.1 c b u h).2.2
    unfold hCx
    rw [So_oput, if_neg (by omega), So_iput]
    show So (oput (grow M 4 4) 4 (Sz M) _) c b = _
    rw [So_oput, if_neg (by omega)]
    exact h
  · have hb := (hw.2.1 b u h).2
    unfold hCx ni
    simp only [Si_oput, Si_iput, Si_jput, Si_rput, Si_qput, Si_kput, Si_grow, Sz_oput, Sz_iput, Sz_jput, Sz_rput, Sz_qput, Sz_kput, Sz_grow]
    rw [if_neg (by omega), if_neg (by omega), if_neg (by omega), if_neg (by omega)]
    exact h
theorem ext_hCl (hw : Wf M) : Ext M (hCl M v) no2 no1 no1 no1 := by
  refine ⟨fun c b u h _ => ?_, fun b u h _ => h, fun k b u h _ => ?_, fun b u h _ => ?_, fun _ _ h => h, by show Sz M ≤ Sz M + 1 + 1 + 1; omega⟩
  · have hb := (hw.1 c b u h).2.2
    unfold hCl
    rw [So_oput, if_neg (by omega)]
    show So (oput (grow M 4 3) 3 (Sz M) _) c b = _
    rw [So_oput, if_neg (by omega)]
    exact h
  · have hb := (hw.2.2.2.1 k b u h).2.2
    unfold hCl ni nr
    simp only [Sr_oput, Sr_iput, Sr_jput, Sr_rput, Sr_qput, Sr_kput, Sr_grow, Sz_oput, Sz_iput, Sz_jput, Sz_rput, Sz_qput, Sz_kput, Sz_grow]
    rw [if_neg (by omega)]
    exact h
  · have hb := (hw.2.1 b u h).2
    unfold hCl ni nr
    simp only [Si_oput, Si_iput, Si_jput, Si_rput, Si_qput, Si_kput, Si_grow, Sz_oput, Sz_iput, Sz_jput, Sz_rput, Sz_qput, Sz_kput, Sz_grow]
    rw [if_neg (by omega)]
    exact h
theorem psum_0 {f : Nat → Nat} : ∀ n, (∀ x, x < n → f x = 0) → psum f n = 0
  | 0, _ => rfl
  | n + 1, h => by show psum f n + f n = 0; rw [psum_0 n (fun x hx => h x (by omega)), h n (by omega)]
theorem psum_k {f : Nat → Nat} (h : ∀ x, f x ≤ 44) (n : Nat) : ∀ k, psum f (n + k) ≤ psum f n + 44 * k
  | 0 => by show psum f n ≤ _; omega
  | k + 1 => by
    have := psum_k h n k
    have := h (n + k)
    show psum f (n + k) + f (n + k) ≤ _
    omega
theorem QE.ac {e z0 : Nat} (h : QE z M) (hz : Sz M = z + 14) : acc M e z0 ≤ 2 * Sl M + 24 * (Sz M - z0) + 616 := by
  unfold acc
  have k : ∀ x, (if x = e then 0 else pt (Sq M x)) ≤ 44 := fun x => by
    split
    · omega
    · rcases h.2 x with q | q
      · rw [q]; show (0 : Nat) ≤ 44; omega
      · rw [q]; exact Nat.le_refl _
  have k0 : psum (fun x => if x = e then 0 else pt (Sq M x)) z = 0 := psum_0 z (fun x hx => by rw [h.1 x hx]; split <;> rfl)
  have k1 := psum_k k z 14
  rw [k0, ← hz] at k1
  omega
theorem ar8 {ac s z z0 : Nat} (h : ac ≤ 2 * (s + 841) + 24 * (z + 14 - z0) + 616) (hz : z0 ≤ z) : ac + 44 + 1500 * 0 ≤ 2 * s + 24 * (z - z0) + 3000 := by omega
theorem ar9 (n : Nat) : n + 1 + 1 + 3 + 1 + 4 + 3 + 1 = n + 14 := by omega
theorem ar10 (n : Nat) : n + 2 + 3 + 9 + 3 + 457 + 364 + 3 = n + 841 := by omega
theorem ct_House {z0 : Nat} (ho : So M 10 a = some [.null, .null, .null, .null, .null, .null, .null, .int 0, .int 0, .int 0, .int 0, .int 0, .int 0]) (hq : ∀ x, Sq M x = none) (hz0 : z0 ≤ Sz M) : CT G 5 101 mX9_init [.ref a] M (fun r M1 => r = none ∧ ∃ A Γ γ, aT A = a ∧ aZ A = z0 ∧ Rep M1 A Γ σ0 γ (2 * Sl M + 24 * (Sz M - z0) + 3000) ∧ Ext M M1 (c10 a) no1 no1 no1 ∧ (∀ q, q = aO A ∨ q = aS A ∨ q = aU A ∨ q = aL A → Sz M ≤ q)) := by
  refine ct_wf fun hw => ?_
  refine ct_go (by decide +kernel) (Nat.le_of_ble_eq_true rfl) (L := [(0, .ref a)]) rfl ?_
  have ha := (hw.1 10 a _ ho).2.2
  refine xw_aload_n dX9_init_0 rfl rfl ?_
  refine xw_obj dX9_init_1 tw_70 tw_71 tw_72 (Nat.le_of_ble_eq_true rfl) (Nat.le_of_ble_eq_true rfl) ?_
  refine xw_aload_n dX9_init_4 rfl rfl ?_
  refine xw_new (ci := 9) (fs := [.int 0, .long 0]) tyX8 dX9_init_5 rfl inX8 tyX8_ok (by decide) tw_73 tw_74 tw_40 (fun j hj => by rcases (show j = 0 ∨ j = 1 by omega) with rfl | rfl <;> rfl) ?_
  refine xw_dup dX9_init_8 rfl ?_
  refine xw_iconst (v := 3) dX9_init_9 (by decide) ?_
  refine xw_lconst (v := 0) dX9_init_10 (by decide) ?_
  refine xw_callI (q2 := mX8_init) (n2 := 2) (Bs := [.int 3, .long 0]) (rest := [.ref (Sz M), .ref a]) (ct_Value (a := Sz M) nv_0) rfl dX9_init_11 rfl rfl tw_75 tw_76 tw_40 tw_77 (by decide +kernel) rfl (Nat.le_of_ble_eq_true rfl) (Nat.le_of_ble_eq_true rfl) (Nat.le_of_ble_eq_true rfl) (fun rr M1 hr hle1 => ?_)
  obtain ⟨rfl, hM1⟩ := hr
  rw [oput_oput] at hM1
  obtain rfl : M1 = nv M (3, 0) := hM1
  obtain ⟨v, hv⟩ : ∃ v, v = Sz M := ⟨_, rfl⟩
  rw [← hv]
  refine xw_putF (ci := 10) (k := 0) tyX9 dX9_init_14 ((ext_nv hw).so ho id) rfl inX9 tyX9_ok nmX9 (by decide) tw_180 (Or.inl rfl) rfl rfl rfl rfl rfl rfl (Nat.le_of_ble_eq_true rfl) ?_
  dsimp only [List.set]
  have e1 : Ext M (oput (nv M (3, 0)) 10 a (some [.ref v, .null, .null, .null, .null, .null, .null, .int 0, .int 0, .int 0, .int 0, .int 0, .int 0])) (c10 a) no1 no1 no1 := ext_c10 (ext_nv hw)
  have hv1 : So (oput (nv M (3, 0)) 10 a (some [.ref v, .null, .null, .null, .null, .null, .null, .int 0, .int 0, .int 0, .int 0, .int 0, .int 0])) 9 v = some [.int 3, .long 0] := by rw [So_oput, if_neg (fun z => absurd z.1 (by decide)), hv]; exact nv_at
  have hz1 : Sz (oput (nv M (3, 0)) 10 a (some [.ref v, .null, .null, .null, .null, .null, .null, .int 0, .int 0, .int 0, .int 0, .int 0, .int 0])) = Sz M + 1 := rfl
  have hs1 : Sl (oput (nv M (3, 0)) 10 a (some [.ref v, .null, .null, .null, .null, .null, .null, .int 0, .int 0, .int 0, .int 0, .int 0, .int 0])) = Sl M + 2 := rfl
  have hQ1 : QE (Sz M) (oput (nv M (3, 0)) 10 a (some [.ref v, .null, .null, .null, .null, .null, .null, .int 0, .int 0, .int 0, .int 0, .int 0, .int 0])) := ⟨fun x _ => hq x, fun x => Or.inl (hq x)⟩
  have hT1 : So (oput (nv M (3, 0)) 10 a (some [.ref v, .null, .null, .null, .null, .null, .null, .int 0, .int 0, .int 0, .int 0, .int 0, .int 0])) 10 a = some [.ref v, .null, .null, .null, .null, .null, .null, .int 0, .int 0, .int 0, .int 0, .int 0, .int 0] := by rw [So_oput, if_pos ⟨rfl, rfl⟩]
  have hge1 : Sz M ≤ Sz (oput (nv M (3, 0)) 10 a (some [.ref v, .null, .null, .null, .null, .null, .null, .int 0, .int 0, .int 0, .int 0, .int 0, .int 0])) := by rw [hz1]; exact Nat.le_add_right _ _
  generalize oput (nv M (3, 0)) 10 a (some [.ref v, .null, .null, .null, .null, .null, .null, .int 0, .int 0, .int 0, .int 0, .int 0, .int 0]) = N1 at e1 hv1 hz1 hs1 hQ1 hT1 hge1 ⊢
  refine xw_aload_n dX9_init_17 rfl rfl ?_
  refine xw_wf fun hw1 => ?_
  refine xw_new (ci := 0) (fs := [.int 0, .null, .int 0]) tyJx4a65c dX9_init_18 rfl inJx4a65c tyJx4a65c_ok (by decide) tw_90 tw_91 tw_43 (fun j hj => by rcases (show j = 0 ∨ j = 1 ∨ j = 2 by omega) with rfl | rfl | rfl <;> rfl) ?_
  refine xw_dup dX9_init_21 rfl ?_
  refine xw_callI (q2 := mJx4a65c_init_da8c8) (n2 := 0) (Bs := []) (rest := [.ref (Sz N1), .ref a]) (ct_linit hw1) rfl dX9_init_22 rfl rfl tw_92 tw_93 tw_43 tw_94 (by decide +kernel) rfl (Nat.le_of_ble_eq_true rfl) (Nat.le_of_ble_eq_true rfl) (Nat.le_of_ble_eq_true rfl) (fun rr M1 hr hle1 => ?_)
  obtain ⟨rfl, hM1⟩ := hr
  obtain rfl : M1 = nq N1 := hM1
  obtain ⟨n1, hn1⟩ : ∃ n1, n1 = Sz N1 := ⟨_, rfl⟩
  rw [← hn1]
  refine xw_putF (ci := 10) (k := 1) tyX9 dX9_init_25 (show So (nq N1) 10 a = some [.ref v, .null, .null, .null, .null, .null, .null, .int 0, .int 0, .int 0, .int 0, .int 0, .int 0] from hT1) rfl inX9 tyX9_ok nmX9 (by decide) tw_181 (Or.inl rfl) rfl rfl rfl rfl rfl rfl (Nat.le_of_ble_eq_true rfl) ?_
  dsimp only [List.set]
  have e2 : Ext N1 (oput (nq N1) 10 a (some [.ref v, .ref n1, .null, .null, .null, .null, .null, .int 0, .int 0, .int 0, .int 0, .int 0, .int 0])) (c10 a) no1 no1 no1 := ext_c10 (ext_nq hw1)
  have hv2 := e2.so hv1 (fun z => absurd z.1 (by decide))
  have hn2 : Sq (oput (nq N1) 10 a (some [.ref v, .ref n1, .null, .null, .null, .null, .null, .int 0, .int 0, .int 0, .int 0, .int 0, .int 0])) n1 = some ([], 0, 0, 0) := by rw [Sq_oput, Sq_nq, if_pos hn1]
  have hz2 : Sz (oput (nq N1) 10 a (some [.ref v, .ref n1, .null, .null, .null, .null, .null, .int 0, .int 0, .int 0, .int 0, .int 0, .int 0])) = Sz N1 + 1 := rfl
  have hs2 : Sl (oput (nq N1) 10 a (some [.ref v, .ref n1, .null, .null, .null, .null, .null, .int 0, .int 0, .int 0, .int 0, .int 0, .int 0])) = Sl N1 + 3 := rfl
  have hQ2 : QE (Sz M) (oput (nq N1) 10 a (some [.ref v, .ref n1, .null, .null, .null, .null, .null, .int 0, .int 0, .int 0, .int 0, .int 0, .int 0])) := (hQ1.nq hge1).same (fun x => by rw [Sq_oput])
  have hge2 : Sz M ≤ Sz (oput (nq N1) 10 a (some [.ref v, .ref n1, .null, .null, .null, .null, .null, .int 0, .int 0, .int 0, .int 0, .int 0, .int 0])) := by rw [hz2]; exact Nat.le_trans hge1 (Nat.le_add_right _ _)
  have hT2 : So (oput (nq N1) 10 a (some [.ref v, .ref n1, .null, .null, .null, .null, .null, .int 0, .int 0, .int 0, .int 0, .int 0, .int 0])) 10 a = some [.ref v, .ref n1, .null, .null, .null, .null, .null, .int 0, .int 0, .int 0, .int 0, .int 0, .int 0] := by rw [So_oput, if_pos ⟨rfl, rfl⟩]
  generalize oput (nq N1) 10 a (some [.ref v, .ref n1, .null, .null, .null, .null, .null, .int 0, .int 0, .int 0, .int 0, .int 0, .int 0]) = N2 at hv2 e2 hz2 hs2 hQ2 hT2 hge2 hn2 ⊢
  refine xw_aload_n dX9_init_28 rfl rfl ?_
  refine xw_wf fun hw2 => ?_
  refine xw_new (ci := 6) (fs := [.null, .null, .null]) tyX5 dX9_init_29 rfl inX5 tyX5_ok (by decide) tw_116 tw_117 tw_44 (fun j hj => by rcases (show j = 0 ∨ j = 1 ∨ j = 2 by omega) with rfl | rfl | rfl <;> rfl) ?_
  refine xw_dup dX9_init_32 rfl ?_
  refine xw_aload_n dX9_init_33 rfl rfl ?_
  refine xw_get (ci := 10) (k := 0) (v := .ref v) dX9_init_34 (show So (oput (grow N2 3 6) 6 (Sz N2) _) 10 a = some [.ref v, .ref n1, .null, .null, .null, .null, .null, .int 0, .int 0, .int 0, .int 0, .int 0, .int 0] by rw [So_oput, if_neg (fun z => absurd z.1 (by decide))]; exact hT2) rfl inX9 (by decide) tw_180 (Or.inl rfl) rfl ?_
  refine xw_callI (q2 := mX5_init) (n2 := 1) (Bs := [.ref v]) (rest := [.ref (Sz N2), .ref a]) (ct_Frames (a := Sz N2) (show So (oput (grow N2 3 6) 6 (Sz N2) _) 6 (Sz N2) = some [.null, .null, .null] by rw [So_oput, if_pos ⟨rfl, rfl⟩])) rfl dX9_init_37 rfl rfl tw_118 tw_119 tw_44 tw_120 (by decide +kernel) rfl (Nat.le_of_ble_eq_true rfl) (Nat.le_of_ble_eq_true rfl) (Nat.le_of_ble_eq_true rfl) (fun rr M1 hr hle1 => ?_)
  obtain ⟨rfl, hM1⟩ := hr
  obtain rfl : M1 = hFr N2 v := hM1
  obtain ⟨f1, hf1⟩ : ∃ f1, f1 = Sz N2 := ⟨_, rfl⟩
  rw [← hf1]
  refine xw_putF (ci := 10) (k := 2) tyX9 dX9_init_40 ((ext_hFr hw2).so hT2 id) rfl inX9 tyX9_ok nmX9 (by decide) tw_182 (Or.inl rfl) rfl rfl rfl rfl rfl rfl (Nat.le_of_ble_eq_true rfl) ?_
  dsimp only [List.set]
  have e3 : Ext N2 (oput (hFr N2 v) 10 a (some [.ref v, .ref n1, .ref f1, .null, .null, .null, .null, .int 0, .int 0, .int 0, .int 0, .int 0, .int 0])) (c10 a) no1 no1 no1 := ext_c10 (ext_hFr hw2)
  have hv3 := e3.so hv2 (fun z => absurd z.1 (by decide))
  have hn3 := e3.2.1 _ _ hn2 id
  have hf3 : So (oput (hFr N2 v) 10 a (some [.ref v, .ref n1, .ref f1, .null, .null, .null, .null, .int 0, .int 0, .int 0, .int 0, .int 0, .int 0])) 6 f1 = some [.ref v, .ref (f1 + 1), .ref (f1 + 2)] := by unfold hFr; rw [So_oput, if_neg (fun z => absurd z.1 (by decide)), So_oput, if_pos ⟨rfl, hf1⟩, hf1]
  have hm3 : Sq (oput (hFr N2 v) 10 a (some [.ref v, .ref n1, .ref f1, .null, .null, .null, .null, .int 0, .int 0, .int 0, .int 0, .int 0, .int 0])) (f1 + 1) = some ([], 0, 0, 0) := by unfold hFr; rw [Sq_oput, Sq_oput, Sq_nq, if_neg (by show ¬ f1 + 1 = Sz N2 + 1 + 1; omega), Sq_nq, if_pos (by show f1 + 1 = Sz N2 + 1; omega)]
  have he3 : Sq (oput (hFr N2 v) 10 a (some [.ref v, .ref n1, .ref f1, .null, .null, .null, .null, .int 0, .int 0, .int 0, .int 0, .int 0, .int 0])) (f1 + 2) = some ([], 0, 0, 0) := by unfold hFr; rw [Sq_oput, Sq_oput, Sq_nq, if_pos (by show f1 + 2 = Sz N2 + 1 + 1; omega)]
  have hz3 : Sz (oput (hFr N2 v) 10 a (some [.ref v, .ref n1, .ref f1, .null, .null, .null, .null, .int 0, .int 0, .int 0, .int 0, .int 0, .int 0])) = Sz N2 + 3 := rfl
  have hs3 : Sl (oput (hFr N2 v) 10 a (some [.ref v, .ref n1, .ref f1, .null, .null, .null, .null, .int 0, .int 0, .int 0, .int 0, .int 0, .int 0])) = Sl N2 + 9 := by show Sl N2 + 3 + 3 + 3 = Sl N2 + 9; omega
  have hQ3 : QE (Sz M) (oput (hFr N2 v) 10 a (some [.ref v, .ref n1, .ref f1, .null, .null, .null, .null, .int 0, .int 0, .int 0, .int 0, .int 0, .int 0])) := ((((hQ2.same (M1 := oput (grow N2 3 6) 6 (Sz N2) (some [.null, .null, .null])) (fun x => by rw [Sq_oput, Sq_grow])).nq (Nat.le_trans hge2 (Nat.le_add_right _ 1))).nq (Nat.le_trans hge2 (Nat.le_add_right _ 2))).same (fun x => by unfold hFr; rw [Sq_oput, Sq_oput]))
  have hge3 : Sz M ≤ Sz (oput (hFr N2 v) 10 a (some [.ref v, .ref n1, .ref f1, .null, .null, .null, .null, .int 0, .int 0, .int 0, .int 0, .int 0, .int 0])) := by rw [hz3]; exact Nat.le_trans hge2 (Nat.le_add_right _ _)
  have hT3 : So (oput (hFr N2 v) 10 a (some [.ref v, .ref n1, .ref f1, .null, .null, .null, .null, .int 0, .int 0, .int 0, .int 0, .int 0, .int 0])) 10 a = some [.ref v, .ref n1, .ref f1, .null, .null, .null, .null, .int 0, .int 0, .int 0, .int 0, .int 0, .int 0] := by rw [So_oput, if_pos ⟨rfl, rfl⟩]
  generalize oput (hFr N2 v) 10 a (some [.ref v, .ref n1, .ref f1, .null, .null, .null, .null, .int 0, .int 0, .int 0, .int 0, .int 0, .int 0]) = N3 at hv3 hn3 e3 hz3 hs3 hQ3 hT3 hge3 hf3 hm3 he3 ⊢
  refine xw_aload_n dX9_init_43 rfl rfl ?_
  refine xw_wf fun hw3 => ?_
  refine xw_new (ci := 0) (fs := [.int 0, .null, .int 0]) tyJx4a65c dX9_init_44 rfl inJx4a65c tyJx4a65c_ok (by decide) tw_90 tw_91 tw_43 (fun j hj => by rcases (show j = 0 ∨ j = 1 ∨ j = 2 by omega) with rfl | rfl | rfl <;> rfl) ?_
  refine xw_dup dX9_init_47 rfl ?_
  refine xw_callI (q2 := mJx4a65c_init_da8c8) (n2 := 0) (Bs := []) (rest := [.ref (Sz N3), .ref a]) (ct_linit hw3) rfl dX9_init_48 rfl rfl tw_92 tw_93 tw_43 tw_94 (by decide +kernel) rfl (Nat.le_of_ble_eq_true rfl) (Nat.le_of_ble_eq_true rfl) (Nat.le_of_ble_eq_true rfl) (fun rr M1 hr hle1 => ?_)
  obtain ⟨rfl, hM1⟩ := hr
  obtain rfl : M1 = nq N3 := hM1
  obtain ⟨r1, hr1⟩ : ∃ r1, r1 = Sz N3 := ⟨_, rfl⟩
  rw [← hr1]
  refine xw_putF (ci := 10) (k := 3) tyX9 dX9_init_51 (show So (nq N3) 10 a = some [.ref v, .ref n1, .ref f1, .null, .null, .null, .null, .int 0, .int 0, .int 0, .int 0, .int 0, .int 0] from hT3) rfl inX9 tyX9_ok nmX9 (by decide) tw_183 (Or.inl rfl) rfl rfl rfl rfl rfl rfl (Nat.le_of_ble_eq_true rfl) ?_
  dsimp only [List.set]
  have e4 : Ext N3 (oput (nq N3) 10 a (some [.ref v, .ref n1, .ref f1, .ref r1, .null, .null, .null, .int 0, .int 0, .int 0, .int 0, .int 0, .int 0])) (c10 a) no1 no1 no1 := ext_c10 (ext_nq hw3)
  have hv4 := e4.so hv3 (fun z => absurd z.1 (by decide))
  have hn4 := e4.2.1 _ _ hn3 id
  have hf4 := e4.so hf3 (fun z => absurd z.1 (by decide))
  have hm4 := e4.2.1 _ _ hm3 id
  have he4 := e4.2.1 _ _ he3 id
  have hr4 : Sq (oput (nq N3) 10 a (some [.ref v, .ref n1, .ref f1, .ref r1, .null, .null, .null, .int 0, .int 0, .int 0, .int 0, .int 0, .int 0])) r1 = some ([], 0, 0, 0) := by rw [Sq_oput, Sq_nq, if_pos hr1]
  have hz4 : Sz (oput (nq N3) 10 a (some [.ref v, .ref n1, .ref f1, .ref r1, .null, .null, .null, .int 0, .int 0, .int 0, .int 0, .int 0, .int 0])) = Sz N3 + 1 := rfl
  have hs4 : Sl (oput (nq N3) 10 a (some [.ref v, .ref n1, .ref f1, .ref r1, .null, .null, .null, .int 0, .int 0, .int 0, .int 0, .int 0, .int 0])) = Sl N3 + 3 := rfl
  have hQ4 : QE (Sz M) (oput (nq N3) 10 a (some [.ref v, .ref n1, .ref f1, .ref r1, .null, .null, .null, .int 0, .int 0, .int 0, .int 0, .int 0, .int 0])) := (hQ3.nq hge3).same (fun x => by rw [Sq_oput])
  have hge4 : Sz M ≤ Sz (oput (nq N3) 10 a (some [.ref v, .ref n1, .ref f1, .ref r1, .null, .null, .null, .int 0, .int 0, .int 0, .int 0, .int 0, .int 0])) := by rw [hz4]; exact Nat.le_trans hge3 (Nat.le_add_right _ _)
  have hT4 : So (oput (nq N3) 10 a (some [.ref v, .ref n1, .ref f1, .ref r1, .null, .null, .null, .int 0, .int 0, .int 0, .int 0, .int 0, .int 0])) 10 a = some [.ref v, .ref n1, .ref f1, .ref r1, .null, .null, .null, .int 0, .int 0, .int 0, .int 0, .int 0, .int 0] := by rw [So_oput, if_pos ⟨rfl, rfl⟩]
  generalize oput (nq N3) 10 a (some [.ref v, .ref n1, .ref f1, .ref r1, .null, .null, .null, .int 0, .int 0, .int 0, .int 0, .int 0, .int 0]) = N4 at hv4 hn4 hf4 hm4 he4 e4 hz4 hs4 hQ4 hT4 hge4 hr4 ⊢
  refine xw_aload_n dX9_init_54 rfl rfl ?_
  refine xw_pc (pc2 := 55) rfl ?_
  refine xw_wf fun hw4 => ?_
  refine xw_new (ci := 4) (fs := [.null, .null, .null, .int 0]) tyX3 dX9_init_55 rfl inX3 tyX3_ok (by decide) tw_134 tw_135 tw_45 (fun j hj => by rcases (show j = 0 ∨ j = 1 ∨ j = 2 ∨ j = 3 by omega) with rfl | rfl | rfl | rfl <;> rfl) ?_
  refine xw_dup dX9_init_58 rfl ?_
  refine xw_callI (q2 := mX3_init) (n2 := 0) (Bs := []) (rest := [.ref (Sz N4), .ref a]) (ct_Contexts (a := Sz N4) (show So (oput (grow N4 4 4) 4 (Sz N4) _) 4 (Sz N4) = some [.null, .null, .null, .int 0] by rw [So_oput, if_pos ⟨rfl, rfl⟩])) rfl dX9_init_59 rfl rfl tw_136 tw_137 tw_45 tw_138 (by decide +kernel) rfl (Nat.le_of_ble_eq_true rfl) (Nat.le_of_ble_eq_true rfl) (Nat.le_of_ble_eq_true rfl) (fun rr M1 hr hle1 => ?_)
  obtain ⟨rfl, hM1⟩ := hr
  obtain rfl : M1 = hCx N4 := hM1
  obtain ⟨x1, hx1⟩ : ∃ x1, x1 = Sz N4 := ⟨_, rfl⟩
  rw [← hx1]
  refine xw_putF (ci := 10) (k := 4) tyX9 dX9_init_62 ((ext_hCx hw4).so hT4 id) rfl inX9 tyX9_ok nmX9 (by decide) tw_184 (Or.inl rfl) rfl rfl rfl rfl rfl rfl (Nat.le_of_ble_eq_true rfl) ?_
  dsimp only [List.set]
  have e5 : Ext N4 (oput (hCx N4) 10 a (some [.ref v, .ref n1, .ref f1, .ref r1, .ref x1, .null, .null, .int 0, .int 0, .int 0, .int 0, .int 0, .int 0])) (c10 a) no1 no1 no1 := ext_c10 (ext_hCx hw4)
  have hv5 := e5.so hv4 (fun z => absurd z.1 (by decide))
  have hn5 := e5.2.1 _ _ hn4 id
  have hf5 := e5.so hf4 (fun z => absurd z.1 (by decide))
  have hm5 := e5.2.1 _ _ hm4 id
  have he5 := e5.2.1 _ _ he4 id
  have hr5 := e5.2.1 _ _ hr4 id
  have hx5 : So (oput (hCx N4) 10 a (some [.ref v, .ref n1, .ref f1, .ref r1, .ref x1, .null, .null, .int 0, .int 0, .int 0, .int 0, .int 0, .int 0])) 4 x1 = some [.ref (x1 + 1), .ref (x1 + 2), .ref (x1 + 3), .int 1] := by unfold hCx; rw [So_oput, if_neg (fun z => absurd z.1 (by decide)), So_oput, if_pos ⟨rfl, hx1⟩, hx1]
  have ho5 : Si (oput (hCx N4) 10 a (some [.ref v, .ref n1, .ref f1, .ref r1, .ref x1, .null, .null, .int 0, .int 0, .int 0, .int 0, .int 0, .int 0])) (x1 + 1) = some (151, upd (fun _ => 0) 0 (-1)) := by unfold hCx; rw [Si_oput, Si_oput, Si_iput, if_pos (by omega)]
  have hp5 : Si (oput (hCx N4) 10 a (some [.ref v, .ref n1, .ref f1, .ref r1, .ref x1, .null, .null, .int 0, .int 0, .int 0, .int 0, .int 0, .int 0])) (x1 + 2) = some (151, fun _ => 0) := by unfold hCx ni; simp only [Si_oput, Si_iput, Si_jput, Si_rput, Si_qput, Si_kput, Si_grow, Sz_oput, Sz_iput, Sz_jput, Sz_rput, Sz_qput, Sz_kput, Sz_grow]; rw [if_neg (by omega), if_neg (by omega), if_pos (by omega)]
  have hu5 : Si (oput (hCx N4) 10 a (some [.ref v, .ref n1, .ref f1, .ref r1, .ref x1, .null, .null, .int 0, .int 0, .int 0, .int 0, .int 0, .int 0])) (x1 + 3) = some (151, fun _ => 0) := by unfold hCx ni; simp only [Si_oput, Si_iput, Si_jput, Si_rput, Si_qput, Si_kput, Si_grow, Sz_oput, Sz_iput, Sz_jput, Sz_rput, Sz_qput, Sz_kput, Sz_grow]; rw [if_neg (by omega), if_pos (by omega)]
  have hz5 : Sz (oput (hCx N4) 10 a (some [.ref v, .ref n1, .ref f1, .ref r1, .ref x1, .null, .null, .int 0, .int 0, .int 0, .int 0, .int 0, .int 0])) = Sz N4 + 4 := rfl
  have hs5 : Sl (oput (hCx N4) 10 a (some [.ref v, .ref n1, .ref f1, .ref r1, .ref x1, .null, .null, .int 0, .int 0, .int 0, .int 0, .int 0, .int 0])) = Sl N4 + 457 := by show Sl N4 + 4 + 151 + 151 + 151 = Sl N4 + 457; omega
  have hQ5 : QE (Sz M) (oput (hCx N4) 10 a (some [.ref v, .ref n1, .ref f1, .ref r1, .ref x1, .null, .null, .int 0, .int 0, .int 0, .int 0, .int 0, .int 0])) := hQ4.same (fun x => by unfold hCx ni; simp only [Sq_oput, Sq_iput, Sq_jput, Sq_rput, Sq_qput, Sq_kput, Sq_grow])
  have hge5 : Sz M ≤ Sz (oput (hCx N4) 10 a (some [.ref v, .ref n1, .ref f1, .ref r1, .ref x1, .null, .null, .int 0, .int 0, .int 0, .int 0, .int 0, .int 0])) := by rw [hz5]; exact Nat.le_trans hge4 (Nat.le_add_right _ _)
  have hT5 : So (oput (hCx N4) 10 a (some [.ref v, .ref n1, .ref f1, .ref r1, .ref x1, .null, .null, .int 0, .int 0, .int 0, .int 0, .int 0, .int 0])) 10 a = some [.ref v, .ref n1, .ref f1, .ref r1, .ref x1, .null, .null, .int 0, .int 0, .int 0, .int 0, .int 0, .int 0] := by rw [So_oput, if_pos ⟨rfl, rfl⟩]
  generalize oput (hCx N4) 10 a (some [.ref v, .ref n1, .ref f1, .ref r1, .ref x1, .null, .null, .int 0, .int 0, .int 0, .int 0, .int 0, .int 0]) = N5 at hv5 hn5 hf5 hm5 he5 hr5 e5 hz5 hs5 hQ5 hT5 hge5 hx5 ho5 hp5 hu5 ⊢
  refine xw_aload_n dX9_init_65 rfl rfl ?_
  refine xw_wf fun hw5 => ?_
  refine xw_new (ci := 3) (fs := [.null, .null, .null, .int 0]) tyX2 dX9_init_66 rfl inX2 tyX2_ok (by decide) tw_158 tw_159 tw_46 (fun j hj => by rcases (show j = 0 ∨ j = 1 ∨ j = 2 ∨ j = 3 by omega) with rfl | rfl | rfl | rfl <;> rfl) ?_
  refine xw_dup dX9_init_69 rfl ?_
  refine xw_aload_n dX9_init_70 rfl rfl ?_
  refine xw_get (ci := 10) (k := 0) (v := .ref v) dX9_init_71 (show So (oput (grow N5 4 3) 3 (Sz N5) _) 10 a = some [.ref v, .ref n1, .ref f1, .ref r1, .ref x1, .null, .null, .int 0, .int 0, .int 0, .int 0, .int 0, .int 0] by rw [So_oput, if_neg (fun z => absurd z.1 (by decide))]; exact hT5) rfl inX9 (by decide) tw_180 (Or.inl rfl) rfl ?_
  refine xw_callI (q2 := mX2_init) (n2 := 1) (Bs := [.ref v]) (rest := [.ref (Sz N5), .ref a]) (ct_Cells (a := Sz N5) (show So (oput (grow N5 4 3) 3 (Sz N5) _) 3 (Sz N5) = some [.null, .null, .null, .int 0] by rw [So_oput, if_pos ⟨rfl, rfl⟩])) rfl dX9_init_74 rfl rfl tw_160 tw_161 tw_46 tw_162 (by decide +kernel) rfl (Nat.le_of_ble_eq_true rfl) (Nat.le_of_ble_eq_true rfl) (Nat.le_of_ble_eq_true rfl) (fun rr M1 hr hle1 => ?_)
  obtain ⟨rfl, hM1⟩ := hr
  obtain rfl : M1 = hCl N5 v := hM1
  obtain ⟨c1, hc1⟩ : ∃ c1, c1 = Sz N5 := ⟨_, rfl⟩
  rw [← hc1]
  refine xw_putF (ci := 10) (k := 5) tyX9 dX9_init_77 ((ext_hCl hw5).so hT5 id) rfl inX9 tyX9_ok nmX9 (by decide) tw_185 (Or.inl rfl) rfl rfl rfl rfl rfl rfl (Nat.le_of_ble_eq_true rfl) ?_
  dsimp only [List.set]
  have e6 : Ext N5 (oput (hCl N5 v) 10 a (some [.ref v, .ref n1, .ref f1, .ref r1, .ref x1, .ref c1, .null, .int 0, .int 0, .int 0, .int 0, .int 0, .int 0])) (c10 a) no1 no1 no1 := ext_c10 (ext_hCl hw5)
  have hv6 := e6.so hv5 (fun z => absurd z.1 (by decide))
  have hn6 := e6.2.1 _ _ hn5 id
  have hf6 := e6.so hf5 (fun z => absurd z.1 (by decide))
  have hm6 := e6.2.1 _ _ hm5 id
  have he6 := e6.2.1 _ _ he5 id
  have hr6 := e6.2.1 _ _ hr5 id
  have hx6 := e6.so hx5 (fun z => absurd z.1 (by decide))
  have ho6 := e6.2.2.2.1 _ _ ho5 id
  have hp6 := e6.2.2.2.1 _ _ hp5 id
  have hu6 := e6.2.2.2.1 _ _ hu5 id
  have hc6 : So (oput (hCl N5 v) 10 a (some [.ref v, .ref n1, .ref f1, .ref r1, .ref x1, .ref c1, .null, .int 0, .int 0, .int 0, .int 0, .int 0, .int 0])) 3 c1 = some [.ref v, .ref (c1 + 1), .ref (c1 + 2), .int 0] := by unfold hCl; rw [So_oput, if_neg (fun z => absurd z.1 (by decide)), So_oput, if_pos ⟨rfl, hc1⟩, hc1]
  have hw_6 : Sr (oput (hCl N5 v) 10 a (some [.ref v, .ref n1, .ref f1, .ref r1, .ref x1, .ref c1, .null, .int 0, .int 0, .int 0, .int 0, .int 0, .int 0])) 0 (c1 + 1) = some (320, fun _ => none) := by unfold hCl ni nr; simp only [Sr_oput, Sr_iput, Sr_jput, Sr_rput, Sr_qput, Sr_kput, Sr_grow, Sz_oput, Sz_iput, Sz_jput, Sz_rput, Sz_qput, Sz_kput, Sz_grow]; rw [if_pos ⟨trivial, by omega⟩]
  have hl6 : Si (oput (hCl N5 v) 10 a (some [.ref v, .ref n1, .ref f1, .ref r1, .ref x1, .ref c1, .null, .int 0, .int 0, .int 0, .int 0, .int 0, .int 0])) (c1 + 2) = some (40, fun _ => 0) := by unfold hCl ni nr; simp only [Si_oput, Si_iput, Si_jput, Si_rput, Si_qput, Si_kput, Si_grow, Sz_oput, Sz_iput, Sz_jput, Sz_rput, Sz_qput, Sz_kput, Sz_grow]; rw [if_pos (by omega)]
  have hz6 : Sz (oput (hCl N5 v) 10 a (some [.ref v, .ref n1, .ref f1, .ref r1, .ref x1, .ref c1, .null, .int 0, .int 0, .int 0, .int 0, .int 0, .int 0])) = Sz N5 + 3 := rfl
  have hs6 : Sl (oput (hCl N5 v) 10 a (some [.ref v, .ref n1, .ref f1, .ref r1, .ref x1, .ref c1, .null, .int 0, .int 0, .int 0, .int 0, .int 0, .int 0])) = Sl N5 + 364 := by show Sl N5 + 4 + 320 + 40 = Sl N5 + 364; omega
  have hQ6 : QE (Sz M) (oput (hCl N5 v) 10 a (some [.ref v, .ref n1, .ref f1, .ref r1, .ref x1, .ref c1, .null, .int 0, .int 0, .int 0, .int 0, .int 0, .int 0])) := hQ5.same (fun x => by unfold hCl ni nr; simp only [Sq_oput, Sq_iput, Sq_jput, Sq_rput, Sq_qput, Sq_kput, Sq_grow])
  have hge6 : Sz M ≤ Sz (oput (hCl N5 v) 10 a (some [.ref v, .ref n1, .ref f1, .ref r1, .ref x1, .ref c1, .null, .int 0, .int 0, .int 0, .int 0, .int 0, .int 0])) := by rw [hz6]; exact Nat.le_trans hge5 (Nat.le_add_right _ _)
  have hT6 : So (oput (hCl N5 v) 10 a (some [.ref v, .ref n1, .ref f1, .ref r1, .ref x1, .ref c1, .null, .int 0, .int 0, .int 0, .int 0, .int 0, .int 0])) 10 a = some [.ref v, .ref n1, .ref f1, .ref r1, .ref x1, .ref c1, .null, .int 0, .int 0, .int 0, .int 0, .int 0, .int 0] := by rw [So_oput, if_pos ⟨rfl, rfl⟩]
  generalize oput (hCl N5 v) 10 a (some [.ref v, .ref n1, .ref f1, .ref r1, .ref x1, .ref c1, .null, .int 0, .int 0, .int 0, .int 0, .int 0, .int 0]) = N6 at hv6 hn6 hf6 hm6 he6 hr6 hx6 ho6 hp6 hu6 e6 hz6 hs6 hQ6 hT6 hge6 hc6 hw_6 hl6 ⊢
  refine xw_aload_n dX9_init_80 rfl rfl ?_
  refine xw_wf fun hw6 => ?_
  refine xw_new (ci := 0) (fs := [.int 0, .null, .int 0]) tyJx4a65c dX9_init_81 rfl inJx4a65c tyJx4a65c_ok (by decide) tw_90 tw_91 tw_43 (fun j hj => by rcases (show j = 0 ∨ j = 1 ∨ j = 2 by omega) with rfl | rfl | rfl <;> rfl) ?_
  refine xw_dup dX9_init_84 rfl ?_
  refine xw_callI (q2 := mJx4a65c_init_da8c8) (n2 := 0) (Bs := []) (rest := [.ref (Sz N6), .ref a]) (ct_linit hw6) rfl dX9_init_85 rfl rfl tw_92 tw_93 tw_43 tw_94 (by decide +kernel) rfl (Nat.le_of_ble_eq_true rfl) (Nat.le_of_ble_eq_true rfl) (Nat.le_of_ble_eq_true rfl) (fun rr M1 hr hle1 => ?_)
  obtain ⟨rfl, hM1⟩ := hr
  obtain rfl : M1 = nq N6 := hM1
  obtain ⟨q1, hq1⟩ : ∃ q1, q1 = Sz N6 := ⟨_, rfl⟩
  rw [← hq1]
  refine xw_putF (ci := 10) (k := 6) tyX9 dX9_init_88 (show So (nq N6) 10 a = some [.ref v, .ref n1, .ref f1, .ref r1, .ref x1, .ref c1, .null, .int 0, .int 0, .int 0, .int 0, .int 0, .int 0] from hT6) rfl inX9 tyX9_ok nmX9 (by decide) tw_186 (Or.inl rfl) rfl rfl rfl rfl rfl rfl (Nat.le_of_ble_eq_true rfl) ?_
  dsimp only [List.set]
  have e7 : Ext N6 (oput (nq N6) 10 a (some [.ref v, .ref n1, .ref f1, .ref r1, .ref x1, .ref c1, .ref q1, .int 0, .int 0, .int 0, .int 0, .int 0, .int 0])) (c10 a) no1 no1 no1 := ext_c10 (ext_nq hw6)
  have hv7 := e7.so hv6 (fun z => absurd z.1 (by decide))
  have hn7 := e7.2.1 _ _ hn6 id
  have hf7 := e7.so hf6 (fun z => absurd z.1 (by decide))
  have hm7 := e7.2.1 _ _ hm6 id
  have he7 := e7.2.1 _ _ he6 id
  have hr7 := e7.2.1 _ _ hr6 id
  have hx7 := e7.so hx6 (fun z => absurd z.1 (by decide))
  have ho7 := e7.2.2.2.1 _ _ ho6 id
  have hp7 := e7.2.2.2.1 _ _ hp6 id
  have hu7 := e7.2.2.2.1 _ _ hu6 id
  have hc7 := e7.so hc6 (fun z => absurd z.1 (by decide))
  have hw_7 := e7.2.2.1 _ _ _ hw_6 id
  have hl7 := e7.2.2.2.1 _ _ hl6 id
  have hq7 : Sq (oput (nq N6) 10 a (some [.ref v, .ref n1, .ref f1, .ref r1, .ref x1, .ref c1, .ref q1, .int 0, .int 0, .int 0, .int 0, .int 0, .int 0])) q1 = some ([], 0, 0, 0) := by rw [Sq_oput, Sq_nq, if_pos hq1]
  have hz7 : Sz (oput (nq N6) 10 a (some [.ref v, .ref n1, .ref f1, .ref r1, .ref x1, .ref c1, .ref q1, .int 0, .int 0, .int 0, .int 0, .int 0, .int 0])) = Sz N6 + 1 := rfl
  have hs7 : Sl (oput (nq N6) 10 a (some [.ref v, .ref n1, .ref f1, .ref r1, .ref x1, .ref c1, .ref q1, .int 0, .int 0, .int 0, .int 0, .int 0, .int 0])) = Sl N6 + 3 := rfl
  have hQ7 : QE (Sz M) (oput (nq N6) 10 a (some [.ref v, .ref n1, .ref f1, .ref r1, .ref x1, .ref c1, .ref q1, .int 0, .int 0, .int 0, .int 0, .int 0, .int 0])) := (hQ6.nq hge6).same (fun x => by rw [Sq_oput])
  have hge7 : Sz M ≤ Sz (oput (nq N6) 10 a (some [.ref v, .ref n1, .ref f1, .ref r1, .ref x1, .ref c1, .ref q1, .int 0, .int 0, .int 0, .int 0, .int 0, .int 0])) := by rw [hz7]; exact Nat.le_trans hge6 (Nat.le_add_right _ _)
  have hT7 : So (oput (nq N6) 10 a (some [.ref v, .ref n1, .ref f1, .ref r1, .ref x1, .ref c1, .ref q1, .int 0, .int 0, .int 0, .int 0, .int 0, .int 0])) 10 a = some [.ref v, .ref n1, .ref f1, .ref r1, .ref x1, .ref c1, .ref q1, .int 0, .int 0, .int 0, .int 0, .int 0, .int 0] := by rw [So_oput, if_pos ⟨rfl, rfl⟩]
  generalize oput (nq N6) 10 a (some [.ref v, .ref n1, .ref f1, .ref r1, .ref x1, .ref c1, .ref q1, .int 0, .int 0, .int 0, .int 0, .int 0, .int 0]) = N7 at hv7 hn7 hf7 hm7 he7 hr7 hx7 ho7 hp7 hu7 hc7 hw_7 hl7 e7 hz7 hs7 hQ7 hT7 hge7 hq7 ⊢
  have hzz : Sz N7 = v + 14 := (show Sz N7 = v + 1 + 1 + 3 + 1 + 4 + 3 + 1 by rw [hz7, hz6, hz5, hz4, hz3, hz2, hz1, hv]).trans (ar9 _)
  have hss : Sl N7 = Sl M + 841 := (show Sl N7 = Sl M + 2 + 3 + 9 + 3 + 457 + 364 + 3 by rw [hs7, hs6, hs5, hs4, hs3, hs2, hs1]).trans (ar10 _)
  have hz0v : z0 ≤ v := by rw [hv]; exact hz0
  have hge7' : z0 ≤ Sz N7 := Nat.le_trans hz0 hge7
  have w1 : f1 = n1 + 1 := by rw [hf1, hz2, hn1]
  have w2 : r1 = f1 + 3 := by rw [hr1, hz3, hf1]
  have w3 : x1 = r1 + 1 := by rw [hx1, hz4, hr1]
  have w4 : c1 = x1 + 4 := by rw [hc1, hz5, hx1]
  have w5 : q1 = c1 + 3 := by rw [hq1, hz6, hc1]
  have w6 : v ≤ x1 := by rw [hx1, hv]; exact hge4
  have w7 : v ≤ c1 := by rw [hc1, hv]; exact hge5
  clear hz1 hz2 hz3 hz4 hz5 hz6 hz7 hs1 hs2 hs3 hs4 hs5 hs6 hs7 hge1 hge2 hge3 hge4 hge5 hge6 hn1 hf1 hr1 hx1 hc1 hq1
  obtain ⟨A, hA⟩ : ∃ A : hA, A = fun n => ([a, v, n1, f1, f1 + 1, f1 + 2, r1, x1, x1 + 1, x1 + 2, x1 + 3, c1, c1 + 1, c1 + 2, q1, z0] : List Nat).getD n 0 := ⟨_, rfl⟩
  have A0 : aT A = a := by rw [hA]; rfl
  have A1 : aV A = v := by rw [hA]; rfl
  have A2 : aN A = n1 := by rw [hA]; rfl
  have A3 : aF A = f1 := by rw [hA]; rfl
  have A4 : aM A = f1 + 1 := by rw [hA]; rfl
  have A5 : aE A = f1 + 2 := by rw [hA]; rfl
  have A6 : aR A = r1 := by rw [hA]; rfl
  have A7 : aX A = x1 := by rw [hA]; rfl
  have A8 : aO A = x1 + 1 := by rw [hA]; rfl
  have A9 : aS A = x1 + 2 := by rw [hA]; rfl
  have A10 : aU A = x1 + 3 := by rw [hA]; rfl
  have A11 : aC A = c1 := by rw [hA]; rfl
  have A12 : aW A = c1 + 1 := by rw [hA]; rfl
  have A13 : aL A = c1 + 2 := by rw [hA]; rfl
  have A14 : aQ A = q1 := by rw [hA]; rfl
  have A15 : aZ A = z0 := by rw [hA]; rfl
  clear hA
  obtain ⟨ro, hro⟩ : ∃ ro : Nat → Nat × Nat, ro = fun x => if x = n1 then (0, 0) else if x = f1 + 1 then (1, 0) else if x = f1 + 2 then (2, 0) else if x = r1 then (3, 0) else if x = q1 then (4, 0) else if x = c1 + 1 then (12, 0) else if x = c1 + 2 then (11, 3) else if x = x1 + 1 then (11, 0) else if x = x1 + 2 then (11, 1) else if x = x1 + 3 then (11, 2) else (99, 0) := ⟨_, rfl⟩
  have r0 : ro n1 = (0, 0) := by rw [hro]; exact if_pos rfl
  have r1' : ro (f1 + 1) = (1, 0) := by rw [hro]; show (if f1 + 1 = n1 then _ else _) = _; rw [if_neg (by omega), if_pos rfl]
  have r2' : ro (f1 + 2) = (2, 0) := by rw [hro]; show (if f1 + 2 = n1 then _ else _) = _; rw [if_neg (by omega), if_neg (by omega), if_pos rfl]
  have r3' : ro r1 = (3, 0) := by rw [hro]; show (if r1 = n1 then _ else _) = _; rw [if_neg (by omega), if_neg (by omega), if_neg (by omega), if_pos rfl]
  have r4' : ro q1 = (4, 0) := by rw [hro]; show (if q1 = n1 then _ else _) = _; rw [if_neg (by omega), if_neg (by omega), if_neg (by omega), if_neg (by omega), if_pos rfl]
  have r12 : ro (c1 + 1) = (12, 0) := by rw [hro]; show (if c1 + 1 = n1 then _ else _) = _; rw [if_neg (by omega), if_neg (by omega), if_neg (by omega), if_neg (by omega), if_neg (by omega), if_pos rfl]
  have r11 : ro (c1 + 2) = (11, 3) := by rw [hro]; show (if c1 + 2 = n1 then _ else _) = _; rw [if_neg (by omega), if_neg (by omega), if_neg (by omega), if_neg (by omega), if_neg (by omega), if_neg (by omega), if_pos rfl]
  have r8' : ro (x1 + 1) = (11, 0) := by rw [hro]; show (if x1 + 1 = n1 then _ else _) = _; rw [if_neg (by omega), if_neg (by omega), if_neg (by omega), if_neg (by omega), if_neg (by omega), if_neg (by omega), if_neg (by omega), if_pos rfl]
  have r9' : ro (x1 + 2) = (11, 1) := by rw [hro]; show (if x1 + 2 = n1 then _ else _) = _; rw [if_neg (by omega), if_neg (by omega), if_neg (by omega), if_neg (by omega), if_neg (by omega), if_neg (by omega), if_neg (by omega), if_neg (by omega), if_pos rfl]
  have r10 : ro (x1 + 3) = (11, 2) := by rw [hro]; show (if x1 + 3 = n1 then _ else _) = _; rw [if_neg (by omega), if_neg (by omega), if_neg (by omega), if_neg (by omega), if_neg (by omega), if_neg (by omega), if_neg (by omega), if_neg (by omega), if_neg (by omega), if_pos rfl]
  clear hro
  obtain ⟨γ, g1, g2, g3, g4, g5⟩ : ∃ γ : hf_S, gcd γ = (fun _ => none) ∧ gro γ = ro ∧ gG γ = (fun _ => []) ∧ gMD γ = [] ∧ True := ⟨wG (wMD (wro (wcd ((fun _ => 0), (fun _ => none), (fun _ => (0, 0)), (fun _ => (0, 0)), [], (fun _ => []), (fun _ => 0), (fun _ => 0), (fun _ => no3)) (fun _ => none)) ro) []) (fun _ => []), rfl, rfl, rfl, rfl, trivial⟩
  have hact : ∀ r, act 0 γ r → r = (2, 0) ∨ r = (3, 0) := fun r hr => by
    rcases hr with q | q | q | ⟨-, c, q⟩
    · exact Or.inl q
    · exact Or.inr q
    · omega
    · rw [g1] at q; cases q
  have hEx : Ext M N7 (c10 a) no1 no1 no1 := e1.tr (e2.tr (e3.tr (e4.tr (e5.tr (e6.tr e7)))))
  refine xw_vret rfl dX9_init_91 ⟨rfl, A, (fun _ _ => 0), γ, A0, A15, ⟨?_, ⟨⟨?_, ?_, fun i x hx => (by cases hx)⟩, ⟨⟨?_, ?_⟩, fun r hr => ?_, fun f hf => ?_, ?_, ?_⟩, ⟨?_, fun r hr => ?_, fun f hf => ?_, fun i hi => absurd hi (Nat.not_lt_zero _), ?_, fun c hc => ?_, fun c hc => rfl⟩, ⟨?_, ⟨upd (fun _ => 0) 0 (-1), fun _ => 0, fun _ => 0, ?_, ?_, ?_, fun j e he => ?_⟩, ?_⟩, ⟨?_, ⟨?_, ?_⟩, ⟨fun _ => 0, ?_, fun k hk => absurd hk (Nat.not_lt_zero _)⟩, ⟨?_, ?_, ?_, ?_⟩, fun c a' hc => ?_, fun k i hk => absurd hk (Nat.not_lt_zero _)⟩, ⟨?_, [], ⟨(0, 0, 0), ?_⟩, rfl, fun k a' x hk => (by cases hk)⟩, ⟨0, (0, 0), ?_, ?_, ?_, Or.inl rfl, fun a' x hx => ?_⟩⟩, GS.zero⟩, hEx, fun q hq => ?_⟩
  · rw [A0, hT7]; unfold HDf; rw [A1, A2, A3, A6, A7, A11, A14]; rfl
  · rw [A2]; exact ⟨_, hn7⟩
  · rw [A2, g2]; exact r0
  · rw [A4, g4]; exact ⟨_, hm7⟩
  · rw [A4, g2]; exact r1'
  · rcases hact r hr with rfl | rfl
    · rw [ad_2, A5, g3, g2]; exact ⟨⟨_, he7⟩, r2'⟩
    · rw [ad_3, A6, g3, g2]; exact ⟨⟨_, hr7⟩, r3'⟩
  · rw [g4] at hf; cases hf
  · rw [A3, A1, A4, A5]; exact hf7
  · rw [A1]; exact hv7
  · rw [g4]; exact List.nodup_nil
  · rw [g3]; exact ⟨List.nodup_nil, fun f hf => by cases hf⟩
  · rw [g3] at hf; cases hf
  · rw [g3]; rfl
  · obtain ⟨c', hc'⟩ := hc
    rw [g1] at hc'; cases hc'
  · rw [A7, A8, A9, A10]; exact hx7
  · rw [A8]; exact ho7
  · rw [A9]; exact hp7
  · rw [A10]; exact hu7
  · have he' : ([((-1, 0, 0) : T3)] : List T3)[j]? = some e := he
    have q := (List.getElem?_eq_some_iff.mp he').1
    rw [List.length_singleton] at q
    obtain rfl : j = 0 := by omega
    cases he'
    exact ⟨rfl, rfl, rfl⟩
  · rw [A8, A9, A10]; exact ⟨Nat.le_refl 1, by show (1 : Nat) ≤ 151; decide, by omega, by omega, by omega⟩
  · rw [A11, A1, A12, A13]; exact hc7
  · rw [A12, g1]; exact hw_7
  · rw [A12, g2]; exact r12
  · rw [A13]; exact hl7
  · rw [A13, g2]; exact r11
  · rw [A8, g2]; exact r8'
  · rw [A9, g2]; exact r9'
  · rw [A10, g2]; exact r10
  · rw [g1] at hc; cases hc
  · rw [A14, g2]; exact r4'
  · rw [A14]; exact hq7
  · rw [A5, A15, g4]
    have k := hQ7.ac (e := f1 + 2) (z0 := z0) (by rw [← hv]; exact hzz)
    rw [hss, hzz] at k
    exact ar8 k hz0v
  · rw [A15]; exact hge7'
  · rw [A5, g3]; exact he7
  · rcases hQ7.2 a' with q | q
    · rw [hx] at q; cases q
    · rw [hx] at q; cases q; exact Nat.zero_le _
  · rw [A8, A9, A10, A13] at hq
    rcases hq with rfl | rfl | rfl | rfl
    · exact Nat.le_trans w6 (Nat.le_add_right _ _)
    · exact Nat.le_trans w6 (Nat.le_add_right _ _)
    · exact Nat.le_trans w6 (Nat.le_add_right _ _)
    · exact Nat.le_trans w7 (Nat.le_add_right _ _)
end INIT
