/-! THE CLASS: a frame is taken, a frame goes back -/
theorem sub_len : ∀ (l m : List Nat), l.Nodup → (∀ x, x ∈ l → x ∈ m) → l.length ≤ m.length
  | [], m, _, _ => Nat.zero_le _
  | x :: xs, m, hn, hs => by
    have h1 := List.nodup_cons.mp hn
    have hx : x ∈ m := hs x (by simp)
    have := sub_len xs (m.erase x) h1.2 (fun y hy => (List.mem_erase_of_ne (show y ≠ x from fun z => h1.1 (z ▸ hy))).mpr (hs y (by simp [hy])))
    rw [List.length_erase_of_mem hx] at this
    have h0 : 0 < m.length := List.length_pos_of_mem hx
    simp only [List.length_cons]
    omega
/-- a new frame -/
def nf (M : hx_S) (nv na : Nat) (c : Int32) : hx_S := oput (nr (oput (grow M 5 5) 5 (Sz M) (some [.null, .null, .null, .int 0, .int 0])) 1 3 (v3 (some nv) (some nv) (some nv))) 5 (Sz M) (some [.ref nv, .ref (Sz M + 1), .ref na, .int c, .int 0])
section NF
variable {M : hx_S} {nv na : Nat} {c : Int32}
theorem Sz_nf : Sz (nf M nv na c) = Sz M + 2 := rfl
theorem Sl_nf : Sl (nf M nv na c) = Sl M + 8 := rfl
theorem Sq_nf (b : Nat) : Sq (nf M nv na c) b = Sq M b := rfl
theorem Si_nf (b : Nat) : Si (nf M nv na c) b = Si M b := rfl
theorem Sj_nf (b : Nat) : Sj (nf M nv na c) b = Sj M b := rfl
theorem So_nf (k b : Nat) : So (nf M nv na c) k b = if k = 5 ∧ b = Sz M then some [.ref nv, .ref (Sz M + 1), .ref na, .int c, .int 0] else So M k b := by
  unfold nf nr
  rw [So_oput, So_rput, So_grow, So_oput, So_grow]
  split
  · rfl
  · rfl
theorem Sr_nf (k b : Nat) : Sr (nf M nv na c) k b = if k = 1 ∧ b = Sz M + 1 then some (3, v3 (some nv) (some nv) (some nv)) else Sr M k b := rfl
theorem ext_nf (hw : Wf M) : Ext M (nf M nv na c) no2 no1 no1 no1 :=
  ⟨fun k b v h _ => by rw [So_nf, if_neg (fun z => by rw [z.1, z.2, hw.nso (Nat.le_refl _)] at h; cases h)]; exact h, fun _ _ h _ => h, fun k b v h _ => by rw [Sr_nf, if_neg (fun z => by rw [z.1, z.2, hw.nsr (Nat.le_succ _)] at h; cases h)]; exact h, fun _ _ h _ => h, fun _ _ h => h, by rw [Sz_nf]; omega⟩
end NF
section TAKE2
variable {G : hx_G} {M : hx_S} {A : hA} {Γ : hG} {σ : hs_S} {γ : hf_S} {b : Nat}
/-- what take and takeBack leave alone -/
def kept2 (γ γ1 : hf_S) (f : Nat) : Prop := (∀ r, r ≠ (2, 0) → gG γ1 r = gG γ r) ∧ (gcd γ1 = gcd γ ∧ gkl γ1 = gkl γ) ∧ (∀ g, g ≠ f → gna γ1 g = gna γ g ∧ gfc γ1 g = gfc γ g ∧ gft γ1 g = gft γ g)
theorem ct_take (h : RepB M A Γ σ γ b) (hb : b + 150 ≤ 14400000) {na : Nat} {c : Int32} : CT G 7 157 mX5_take [.ref (aF A), .ref na, .int c] M (fun r M1 => ∃ f γ1, r = some (.ref f) ∧ RepB M1 A Γ σ γ1 (b + 150) ∧ fly γ1 f ∧ (gna γ1 f = na ∧ gfc γ1 f = c ∧ gft γ1 f = no3) ∧ kept2 γ γ1 f ∧ XF M M1) := by
  refine ct_wf fun hw => ?_
  refine ct_go (by decide +kernel) (Nat.le_of_ble_eq_true rfl) (L := [(0, .ref (aF A)), (1, .ref na), (2, .int c)]) rfl ?_
  obtain ⟨hfr, hnv⟩ := h.2.1.2.2.2
  obtain ⟨⟨⟨cp, e, mc⟩, hy⟩, hro⟩ := h.2.1.2.1 (2, 0) act_2
  rw [ad_2] at hy hro
  have hcap := h.2.2.2.2.2.2.cap (by omega) hy
  have hlen : (gG γ (2, 0)).length ≤ cp := (hw.2.2.2.2 _ _ hy).2.2.1
  simp only at hcap
  have hl31 : (gG γ (2, 0)).length < 2 ^ 31 := by omega
  refine xw_aload_n dX5_take_0 rfl rfl ?_
  refine xw_get (ci := 6) (k := 2) (v := .ref (aE A)) dX5_take_1 hfr rfl inX5 (by decide) tw_126 (Or.inl rfl) rfl ?_
  refine xw_callV (q2 := mJx4a65c_isEmpty_aae02) (n2 := 0) (ci := 0) (Bs := []) (rest := []) (ct_isEmpty hy hl31) dX5_take_4 rfl (q_at hy) rfl rfl tw_363 tw_364 tw_365 tw_43 tw_366 (by decide +kernel) rfl (Nat.le_of_ble_eq_true rfl) (Nat.le_of_ble_eq_true rfl) (Nat.le_of_ble_eq_true rfl) (fun rr M1 hr hle1 => ?_)
  obtain ⟨rfl, hM1⟩ := hr
  obtain rfl := hM1.symm
  by_cases he : gG γ (2, 0) = []
  · rw [if_pos he]
    refine xw_if_eq (tgt := 35) dX5_take_7 (by decide) (fun zz => absurd zz (by decide)) (fun _ => ?_)
    refine xw_new (ci := 5) (fs := [.null, .null, .null, .int 0, .int 0]) tyX4 dX5_take_10 rfl inX4 tyX4_ok (by decide) tw_367 tw_368 tw_61 (fun j hj => by rcases (show j = 0 ∨ j = 1 ∨ j = 2 ∨ j = 3 ∨ j = 4 by omega) with rfl | rfl | rfl | rfl | rfl <;> rfl) ?_
    refine xw_dup dX5_take_13 rfl ?_
    refine xw_aload_n dX5_take_14 rfl rfl ?_
    refine xw_get (ci := 6) (k := 0) (v := .ref (aV A)) dX5_take_15 (show So (oput (grow M 5 5) 5 (Sz M) _) 6 (aF A) = _ by rw [So_oput, if_neg (fun z => absurd z.1 (by decide))]; exact hfr) rfl inX5 (by decide) tw_124 (Or.inl rfl) rfl ?_
    refine xw_aload_n dX5_take_18 rfl rfl ?_
    refine xw_iload_n dX5_take_19 rfl rfl ?_
    refine xw_callI (q2 := mX4_init) (n2 := 3) (Bs := [.ref (aV A), .ref na, .int c]) (rest := [.ref (Sz M)]) (ct_Frame (a := Sz M) (show So (oput (grow M 5 5) 5 (Sz M) _) 5 (Sz M) = some [.null, .null, .null, .int 0, .int 0] by rw [So_oput, if_pos ⟨rfl, rfl⟩]) (show So (oput (grow M 5 5) 5 (Sz M) _) 9 (aV A) = some [.int 3, .long 0] by rw [So_oput, if_neg (fun z => absurd z.1 (by decide))]; exact hnv)) rfl dX5_take_20 rfl rfl tw_369 tw_370 tw_61 tw_371 (by decide +kernel) rfl (Nat.le_of_ble_eq_true rfl) (Nat.le_of_ble_eq_true rfl) (Nat.le_of_ble_eq_true rfl) (fun rr M1 hr hle1 => ?_)
    obtain ⟨rfl, hM1⟩ := hr
    obtain rfl : M1 = nf M (aV A) na c := hM1
    refine xw_astore_n (L2 := [(3, .ref (Sz M)), (0, .ref (aF A)), (1, .ref na), (2, .int c)]) dX5_take_23 rfl (by decide) rfl ?_
    refine xw_aload_n dX5_take_24 rfl rfl ?_
    refine xw_wf fun hw2 => ?_
    have e1 : Ext M (nf M (aV A) na c) no2 no1 no1 no1 := ext_nf hw
    have hfr2 := e1.so hfr id
    have hnmd : Sz M ∉ gMD γ := fun z => by obtain ⟨vs, q⟩ := h.isF z; rw [hw.nso (Nat.le_refl _)] at q; cases q
    -- the role of the new array
    have hR := (h.rero hw (ro := fun x => if x = Sz M + 1 then (8, Sz M) else gro γ x) (fun x hx => if_neg (show ¬ x = Sz M + 1 by omega))).ext0 e1 (fun _ _ => False.elim) (((h.2.2.2.2.2.2.one (M1 := oput (grow M 5 5) 5 (Sz M) (some [.null, .null, .null, .int 0, .int 0])) (s := 5) hw rfl rfl (fun _ => rfl)).one (M1 := nf M (aV A) na c) (s := 3) (Wf.newo hw (by decide)) rfl rfl (fun _ => rfl)))
    obtain ⟨y2, hy2⟩ := hR.2.1.1.1
    refine xw_get (ci := 6) (k := 1) (v := .ref (aM A)) dX5_take_25 hfr2 rfl inX5 (by decide) tw_125 (Or.inl rfl) rfl ?_
    refine xw_aload_n dX5_take_28 rfl rfl ?_
    have hvS : So (nf M (aV A) na c) 5 (Sz M) = some [.ref (aV A), .ref (Sz M + 1), .ref na, .int c, .int 0] := by rw [So_nf, if_pos ⟨rfl, rfl⟩]
    refine xw_callV (q2 := mJx4a65c_add_9ea2d) (n2 := 1) (ci := 0) (Bs := [.ref (Sz M)]) (rest := []) (ct_add (ci := 5) hy2 (hR.2.2.2.2.2.2.cap (by omega) hy2) (by decide) hvS rfl ks_F (fun g hg => hR.isF hg)) dX5_take_29 rfl (q_at hy2) rfl rfl tw_398 tw_280 tw_281 tw_43 tw_282 (by decide +kernel) rfl (Nat.le_of_ble_eq_true rfl) (Nat.le_of_ble_eq_true rfl) (Nat.le_of_ble_eq_true rfl) (fun rr M1 hr hle1 => ?_)
    obtain ⟨rfl, rfl⟩ := hr
    refine xw_pop dX5_take_32 rfl ?_
    refine xw_aload_n dX5_take_33 rfl rfl ?_
    have e2 : Ext (nf M (aV A) na c) (addq (nf M (aV A) na c) (aM A) (gMD γ, y2) (Sz M)) no2 (fun x => x = aM A) no1 no1 := ext_addq
    have hne : aM A ≠ aE A := fun z => by have q := h.2.1.1.2; rw [z, hro] at q; cases q
    refine xw_aret rfl (Or.inl ⟨_, rfl⟩) (Or.inr ⟨_, rfl⟩) dX5_take_34 ⟨Sz M, _, rfl, hR.newf (f := Sz M) (na := na) (c := c) (t := no3) hnmd e2 lq_addq ?_ ((hR.2.2.2.2.2.2.add hw2 hy2 hne).made.mono ?_), ?_, ?_, ?_, ?_⟩
    · refine ⟨Sz M + 1, aV A, aV A, aV A, if_pos rfl, ?_, ?_, Or.inl ⟨rfl, rfl⟩, Or.inl ⟨rfl, rfl⟩, Or.inl ⟨rfl, rfl⟩⟩
      · rw [So_addq]; exact hvS
      · rw [Sr_addq, Sr_nf, if_pos ⟨rfl, rfl⟩]
    · omega
    · refine ⟨List.mem_append_right _ (by simp), if_pos rfl⟩
    · exact ⟨if_pos rfl, if_pos rfl, if_pos rfl⟩
    · exact ⟨fun r hr => rfl, ⟨rfl, rfl⟩, fun g hg => ⟨if_neg hg, if_neg hg, if_neg hg⟩⟩
    · exact (e1.mono (fun _ _ => False.elim) (fun _ _ => trivial) (fun _ _ => trivial) (fun _ => id)).tr (e2.mono (fun _ _ => False.elim) (fun _ _ => trivial) (fun _ _ => trivial) (fun _ => id))
  · rw [if_neg he]
    refine xw_if_eq (tgt := 35) dX5_take_7 (by decide) (fun _ => ?_) (fun zz => absurd (by decide) zz)
    refine xw_aload_n dX5_take_35 rfl rfl ?_
    refine xw_get (ci := 6) (k := 2) (v := .ref (aE A)) dX5_take_36 hfr rfl inX5 (by decide) tw_126 (Or.inl rfl) rfl ?_
    refine xw_aload_n dX5_take_39 rfl rfl ?_
    refine xw_get (ci := 6) (k := 2) (v := .ref (aE A)) dX5_take_40 hfr rfl inX5 (by decide) tw_126 (Or.inl rfl) rfl ?_
    refine xw_pc (pc2 := 43) rfl ?_
    obtain ⟨k, hk⟩ : ∃ k, (gG γ (2, 0)).length = k + 1 := by
      cases hq : gG γ (2, 0) with
      | nil => exact absurd hq he
      | cons x xs => exact ⟨xs.length, rfl⟩
    have hkl : k < (gG γ (2, 0)).length := by omega
    refine xw_callV (q2 := mJx4a65c_size_8abf5) (n2 := 0) (ci := 0) (Bs := []) (rest := [.ref (aE A)]) (ct_size hy) dX5_take_43 rfl (q_at hy) rfl rfl tw_399 tw_229 tw_230 tw_43 tw_231 (by decide +kernel) rfl (Nat.le_of_ble_eq_true rfl) (Nat.le_of_ble_eq_true rfl) (Nat.le_of_ble_eq_true rfl) (fun rr M1 hr hle1 => ?_)
    obtain ⟨rfl, hM1⟩ := hr
    obtain rfl := hM1.symm
    rw [show nI (gG γ (2, 0), cp, e, mc).1.length = nI (k + 1) from congrArg nI hk]
    refine xw_iconst (v := 1) dX5_take_46 (by decide) ?_
    refine xw_isub dX5_take_47 ?_
    rw [nI_pred]
    refine xw_callV (q2 := mJx4a65c_remove_915e3) (n2 := 1) (ci := 0) (Bs := [.int (nI k)]) (rest := []) (ct_remove (ci := 5) hy hkl (by show cp ≤ 20000001; omega) (by decide) rfl ks_F (fun g hg => h.isF (h.inMD act_2 hg))) dX5_take_48 rfl (q_at hy) rfl rfl tw_400 tw_401 tw_402 tw_43 tw_403 (by decide +kernel) rfl (Nat.le_of_ble_eq_true rfl) (Nat.le_of_ble_eq_true rfl) (Nat.le_of_ble_eq_true rfl) (fun rr M1 hr hle1 => ?_)
    obtain ⟨rfl, rfl⟩ := hr
    have hel : (gG γ (2, 0))[k]? = some (gG γ (2, 0))[k] := List.getElem?_eq_getElem hkl
    have hmem : (gG γ (2, 0))[k] ∈ gG γ (2, 0) := List.getElem_mem hkl
    have hmd := h.inMD act_2 hmem
    have hft := h.2.2.1.2.2.1 _ hmem
    obtain ⟨f, hf0⟩ : ∃ f, f = (gG γ (2, 0))[k] := ⟨_, rfl⟩
    refine Eq.mp (congrArg (fun z => XW G 7 157 mX5_take [.ref (aF A), .ref na, .int c] M _ _ _ _ [.ref z]) hf0) ?_
    rw [← hf0] at hel hmem hmd hft
    obtain ⟨va, w0, w1, w2, p1, p2, p3, p4, p5, p6⟩ := h.2.1.2.2.1 f hmd
    have e1 : Ext M (qput M (aE A) (some ((gG γ (2, 0)).eraseIdx k, cp, e, mc + 1))) no2 (fun x => x = aE A) no1 no1 := ext_qput
    have hR := h.list (r0 := (2, 0)) (r1 := (4, 0)) (f := f) (σ' := σ) act_2 e1 ⟨_, by rw [ad_2, Sq_qput, if_pos rfl]⟩ (h.2.2.1.unfree hel) ⟨rfl, rfl, rfl, rfl, rfl, rfl⟩ (h.2.2.2.2.2.2.lessF hy)
    refine xw_cast (ci := 5) dX5_take_51 (show So (qput M (aE A) _) 5 f = _ from p2) rfl tw_367 ?_
    refine xw_astore_n (L2 := [(3, .ref f), (0, .ref (aF A)), (1, .ref na), (2, .int c)]) dX5_take_54 rfl (by decide) rfl ?_
    refine xw_aload_n dX5_take_55 rfl rfl ?_
    refine xw_aload_n dX5_take_56 rfl rfl ?_
    refine xw_put (ci := 5) (k := 2) tyX4 dX5_take_57 (show So (qput M (aE A) _) 5 f = _ from p2) rfl inX4 tyX4_ok nmX4 (by decide) tw_379 (Or.inl rfl) rfl rfl rfl rfl (Nat.le_of_ble_eq_true rfl) ?_
    dsimp only [List.set]
    refine xw_aload_n dX5_take_60 rfl rfl ?_
    refine xw_iload_n dX5_take_61 rfl rfl ?_
    refine xw_put (ci := 5) (k := 3) tyX4 dX5_take_62 (show So (oput (qput M (aE A) _) 5 f _) 5 f = some [.ref (aV A), .ref va, .ref na, .int (gfc γ f), .int (nI (cnt (gft γ f)))] by rw [So_oput, if_pos ⟨rfl, rfl⟩]) rfl inX4 tyX4_ok nmX4 (by decide) tw_382 (Or.inl rfl) rfl rfl rfl rfl (Nat.le_of_ble_eq_true rfl) ?_
    dsimp only [List.set]
    rw [oput_oput]
    refine xw_aload_n dX5_take_65 rfl rfl ?_
    have e2 : Ext (qput M (aE A) (some ((gG γ (2, 0)).eraseIdx k, cp, e, mc + 1))) (oput (qput M (aE A) (some ((gG γ (2, 0)).eraseIdx k, cp, e, mc + 1))) 5 f (some [.ref (aV A), .ref va, .ref na, .int c, .int (nI (cnt (gft γ f)))])) (fun c' x => c' = 5 ∧ x = f) no1 (fun x => x = va) no1 := ext_oput.mono (fun _ _ => id) (fun _ => id) (fun _ => False.elim) (fun _ => id)
    have hfl : fly (mv γ (2, 0) ((gG γ (2, 0)).eraseIdx k) f (4, 0)) f := ⟨hmd, by rw [mv_pl, if_pos rfl]⟩
    have hR2 := hR.filled (na := na) (c := c) (t := no3) (σ' := σ) e2 p1 ⟨va, w0, w1, w2, p1, by rw [So_oput, if_pos ⟨rfl, rfl⟩, hft], p3, ?_, ?_, ?_⟩ (hR.2.2.1.flown hfl) ⟨rfl, rfl, rfl, rfl, rfl, rfl⟩ rfl rfl rfl (fun _ => rfl)
    · exact xw_aret rfl (Or.inl ⟨_, rfl⟩) (Or.inr ⟨_, rfl⟩) dX5_take_66 ⟨f, _, rfl, ⟨hR2.1, hR2.2.1, hR2.2.2.1, hR2.2.2.2.1, hR2.2.2.2.2.1, hR2.2.2.2.2.2.1, hR2.2.2.2.2.2.2.mono (by omega)⟩, ⟨hmd, hfl.2⟩, ⟨if_pos rfl, if_pos rfl, if_pos rfl⟩, ⟨fun r hr => if_neg hr, ⟨rfl, rfl⟩, fun g hg => ⟨if_neg hg, if_neg hg, if_neg hg⟩⟩, (e1.mono (fun _ _ => False.elim) (fun _ _ => trivial) (fun _ _ => trivial) (fun _ => id)).tr (e2.mono (fun _ _ z => z.1) (fun _ _ => trivial) (fun _ _ => trivial) (fun _ => id))⟩
    · rw [hft] at p4; exact p4
    · rw [hft] at p5; exact p5
    · rw [hft] at p6; exact p6
theorem ct_takeBack {f : Nat} (h : RepB M A Γ σ γ b) (hfl : fly γ f) (hb : b ≤ 14400000) : CT G 7 157 mX5_takeBack [.ref (aF A), .ref f] M (fun r M1 => r = none ∧ ∃ γ1, RepB M1 A Γ σ γ1 b ∧ kept2 γ γ1 f ∧ XF M M1) := by
  refine ct_wf fun hw => ?_
  refine ct_go (by decide +kernel) (Nat.le_of_ble_eq_true rfl) (L := [(0, .ref (aF A)), (1, .ref f)]) rfl ?_
  obtain ⟨hfr, hnv⟩ := h.2.1.2.2.2
  obtain ⟨⟨⟨cp, e, mc⟩, hy⟩, hro⟩ := h.2.1.2.1 (2, 0) act_2
  rw [ad_2] at hy hro
  obtain ⟨va, w0, w1, w2, p1, p2, p3, p4, p5, p6⟩ := h.2.1.2.2.1 f hfl.1
  refine xw_aload_n dX5_takeBack_0 rfl rfl ?_
  refine xw_callV (q2 := mX4_empty) (n2 := 0) (ci := 5) (Bs := []) (rest := []) (ct_empty p2 p3 hnv) dX5_takeBack_1 rfl (o_at p2) rfl rfl tw_442 tw_443 tw_444 tw_61 tw_445 (by decide +kernel) rfl (Nat.le_of_ble_eq_true rfl) (Nat.le_of_ble_eq_true rfl) (Nat.le_of_ble_eq_true rfl) (fun rr M1 hr hle1 => ?_)
  obtain ⟨rfl, rfl⟩ := hr
  refine xw_wf fun hw2 => ?_
  have e1 : Ext M (oput (rput M 1 va (some (3, v3 (some (aV A)) (some (aV A)) (some (aV A))))) 5 f (some [.ref (aV A), .ref va, .ref (gna γ f), .int (gfc γ f), .int 0])) (fun c' x => c' = 5 ∧ x = f) no1 (fun x => x = va) no1 := (ext_rput.mono (fun _ _ => False.elim) (fun _ => id) (fun _ => id) (fun _ => id)).tr (ext_oput.mono (fun _ _ => id) (fun _ => id) (fun _ => False.elim) (fun _ => id))
  have hR := h.filled (na := gna γ f) (c := gfc γ f) (t := no3) (σ' := σ) e1 p1 ⟨va, aV A, aV A, aV A, p1, by rw [So_oput, if_pos ⟨rfl, rfl⟩]; rfl, by rw [Sr_oput, Sr_rput, if_pos ⟨rfl, rfl⟩], Or.inl ⟨rfl, rfl⟩, Or.inl ⟨rfl, rfl⟩, Or.inl ⟨rfl, rfl⟩⟩ (h.2.2.1.flown hfl) ⟨rfl, rfl, rfl, rfl, rfl, rfl⟩ rfl rfl rfl (fun _ => rfl)
  have hfl2 : fly (fill γ f (gna γ f) (gfc γ f) no3) f := hfl
  have hlt : (gG γ (2, 0)).length < (gMD γ).length := sub_len (f :: gG γ (2, 0)) (gMD γ) (List.nodup_cons.mpr ⟨fly.out (n := 0) h.2.2.1 hfl act_2, (h.2.2.1.2.1 _ act_2).1⟩) (fun x hx => by
    rcases List.mem_cons.mp hx with hx | hx
    · rw [hx]; exact hfl.1
    · exact h.inMD act_2 hx)
  refine xw_aload_n dX5_takeBack_4 rfl rfl ?_
  refine xw_get (ci := 6) (k := 2) (v := .ref (aE A)) dX5_takeBack_5 (e1.so hfr (fun z => absurd z.1 (by decide))) rfl inX5 (by decide) tw_126 (Or.inl rfl) rfl ?_
  refine xw_aload_n dX5_takeBack_8 rfl rfl ?_
  have hy2 : Sq (oput (rput M 1 va (some (3, v3 (some (aV A)) (some (aV A)) (some (aV A))))) 5 f (some [.ref (aV A), .ref va, .ref (gna γ f), .int (gfc γ f), .int 0])) (aE A) = some (gG γ (2, 0), cp, e, mc) := hy
  refine xw_callV (q2 := mJx4a65c_add_9ea2d) (n2 := 1) (ci := 0) (Bs := [.ref f]) (rest := []) (ct_add (ci := 5) hy2 (hR.2.2.2.2.2.2.cap (by omega) hy2) (by decide) (by rw [So_oput, if_pos ⟨rfl, rfl⟩]) rfl ks_F (fun g hg => hR.isF (hR.inMD act_2 hg))) dX5_takeBack_9 rfl (q_at hy2) rfl rfl tw_398 tw_280 tw_281 tw_43 tw_282 (by decide +kernel) rfl (Nat.le_of_ble_eq_true rfl) (Nat.le_of_ble_eq_true rfl) (Nat.le_of_ble_eq_true rfl) (fun rr M1 hr hle1 => ?_)
  obtain ⟨rfl, rfl⟩ := hr
  refine xw_pop dX5_takeBack_12 rfl ?_
  exact xw_vret rfl dX5_takeBack_13 ⟨rfl, _, hR.list (r0 := (2, 0)) (r1 := (2, 0)) (f := f) (σ' := σ) act_2 ext_addq lq_addq (hR.2.2.1.free hfl2 (if_pos rfl)) ⟨rfl, rfl, rfl, rfl, rfl, rfl⟩ (hR.2.2.2.2.2.2.addF hw2 hy2 hlt), ⟨fun r hr => if_neg hr, ⟨rfl, rfl⟩, fun g hg => ⟨if_neg hg, if_neg hg, if_neg hg⟩⟩, (e1.mono (fun _ _ z => z.1) (fun _ _ => trivial) (fun _ _ => trivial) (fun _ => id)).tr (ext_addq.mono (fun _ _ => False.elim) (fun _ _ => trivial) (fun _ _ => trivial) (fun _ => id))⟩
end TAKE2
