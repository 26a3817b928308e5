/-! THE CLASS: lists are emptied -/
def dl (γ : hf_S) (r0 : Nat × Nat) : hf_S := wG γ (fun r => if r = r0 then [] else gG γ r)
section DROP
variable {G : hx_G} {M M1 : hx_S} {A : hA} {Γ : hG} {σ σ' : hs_S} {γ : hf_S} {b b' : Nat} {r0 : Nat × Nat}
theorem dl_G (r : Nat × Nat) : gG (dl γ r0) r = if r = r0 then [] else gG γ r := rfl
theorem PF.one (h : PF Γ σ γ) (hn : (sN σ').length = (sN σ).length)
    (hT : ∀ i, i < (sN σ).length → ((6, i) = r0 ∧ ∀ c, sT σ' i c = no3) ∨ (¬ (6, i) = r0 ∧ sT σ' i = sT σ i))
    (hR : ((3, 0) = r0 ∧ sR σ' = []) ∨ (¬ (3, 0) = r0 ∧ sR σ' = sR σ))
    (hK : ∀ c, ((7, c) = r0 ∧ kf σ' c = []) ∨ (¬ (7, c) = r0 ∧ kf σ' c = kf σ c)) : PF Γ σ' (dl γ r0) := by
  obtain ⟨h1, h2, h3, h4, h5, h6, h7⟩ := h
  refine ⟨h1, fun r hr => ?_, fun f hf => ?_, fun i hi => ?_, ?_, fun c hc => ?_, fun c hc => ?_⟩
  · rw [hn] at hr
    have hr' : act (sN σ).length γ r := hr
    by_cases e : r = r0
    · rw [show gG (dl γ r0) r = [] from if_pos e]; exact ⟨List.nodup_nil, fun f hf => by cases hf⟩
    · rw [show gG (dl γ r0) r = gG γ r from if_neg e]; exact h2 r hr'
  · rw [dl_G] at hf
    split at hf
    · cases hf
    · exact h3 f hf
  · rw [hn] at hi
    obtain ⟨a1, a2, a3⟩ := h4 i hi
    rcases hT i hi with ⟨e, z⟩ | ⟨e, z⟩
    · rw [show gG (dl γ r0) (6, i) = [] from if_pos e]
      exact ⟨(fun f hf => by cases hf), (fun f g hf => by cases hf), fun c _ => Or.inr (z c)⟩
    · rw [show gG (dl γ r0) (6, i) = gG γ (6, i) from if_neg e, z]
      exact ⟨a1, a2, a3⟩
  · rcases hR with ⟨e, z⟩ | ⟨e, z⟩
    · rw [show gG (dl γ r0) (3, 0) = [] from if_pos e, z]; rfl
    · rw [show gG (dl γ r0) (3, 0) = gG γ (3, 0) from if_neg e, z]; exact h5
  · rcases hK c with ⟨e, z⟩ | ⟨e, z⟩
    · rw [show gG (dl γ r0) (7, c) = [] from if_pos e, z]; rfl
    · rw [show gG (dl γ r0) (7, c) = gG γ (7, c) from if_neg e, z]; exact h6 c hc
  · rcases hK c with ⟨e, z⟩ | ⟨e, z⟩
    · exact z
    · rw [z]; exact h7 c hc
theorem RepB.dl (h : RepB M A Γ σ γ b) (h0 : act (sN σ).length γ r0) (e : Ext M M1 no2 (fun x => x = ad A Γ γ r0) no1 no1) (hl : LQ M1 (ad A Γ γ r0) []) (hp : PF Γ σ' (dl γ r0)) (hs : same6 σ σ') (ha : AP M1 A (if (2, 0) = r0 then [] else gG γ (2, 0)) (gMD γ).length (sK σ').length b') : RepB M1 A Γ σ' (dl γ r0) b' := by
  obtain ⟨h1, h2, h3, h4, h5, h6, h7⟩ := h
  obtain ⟨s1, s2, s3, s4, s5, s6⟩ := hs
  have hro := (h2.2.1 r0 h0).2
  have hn0 := act_n0 h0
  refine ⟨(h1.ext e (fun _ => id) (fun _ => id) (fun x hx => ?_)).cg s1 rfl, ?_, hp, ?_, (h5.ext e (fun _ => id) (fun _ => id) (fun _ => id) (fun _ => False.elim) (fun _ => False.elim)).cg s3 s4 s5 rfl rfl rfl, (h6.ext e (fun _ => id) (fun _ => id) (fun x hx => ?_)).cg s6 rfl, ha⟩
  · rw [show x = ad A Γ γ r0 from hx, hro]; omega
  · rw [s1]; exact h2.list e h0 hl
  · rw [s2]; exact h4.ext e (fun _ => id) ⟨id, id, id⟩
  · rw [show x = ad A Γ γ r0 from hx, hro]; omega
theorem act_0 {n : Nat} {r : Nat × Nat} (h : act 0 γ r) : act n γ r := by
  rcases h with z | z | z | z
  · exact Or.inl z
  · exact Or.inr (Or.inl z)
  · omega
  · exact Or.inr (Or.inr (Or.inr z))
theorem RepB.noN {xs : List Nat} {cp e : Nat} {mc : Int32} (h : RepB M A Γ σ γ b) (hw : Wf M) (hq : Sq M (aN A) = some (xs, cp, e, mc)) : RepB (qput M (aN A) (some ([], cp, e, mc + 1))) A Γ (uN σ []) γ b := by
  have ex : Ext M (qput M (aN A) (some ([], cp, e, mc + 1))) no2 (fun x => x = aN A) no1 no1 := ext_qput
  obtain ⟨⟨g1, g2, g3⟩, ⟨⟨f1, f2⟩, f3, f4, f5, f6⟩, ⟨p1, p2, p3, p4, p5, p6, p7⟩, k4, k5, k6, k7⟩ := h
  have hE := (f3 (2, 0) act_2).2
  refine ⟨⟨⟨_, by rw [Sq_qput, if_pos rfl]; rfl⟩, g2, fun i x hx => by cases hx⟩, ⟨⟨ex.lq f1 (fun z => ?_), f2⟩, fun r hr => ?_, fun g hg => (f4 g hg).ext ex (fun _ => id) id (fun _ => False.elim), ex.so f5 id, ex.so f6 id⟩, ⟨p1, fun r hr => p2 r (act_0 hr), p3, fun i hi => absurd hi (Nat.not_lt_zero _), p5, p6, p7⟩, k4.ext ex (fun _ => id) ⟨id, id, id⟩, (k5.ext ex (fun _ => id) (fun _ => id) (fun _ => id) (fun _ => False.elim) (fun _ => False.elim)).cg rfl rfl rfl rfl rfl rfl, (k6.ext ex (fun _ => id) (fun _ => id) (fun x hx => ?_)).cg rfl rfl, k7.less hw hq (Nat.zero_le _) (fun z => ?_)⟩
  · rw [show aM A = aN A from z, g2] at f2
    exact absurd (show (0 : Nat) = 1 from congrArg Prod.fst f2) (by decide)
  · obtain ⟨m1, m2⟩ := f3 r (act_0 hr)
    refine ⟨ex.lq m1 (fun z => ?_), m2⟩
    rw [show ad A Γ γ r = aN A from z, g2] at m2
    have q := act_n0 hr
    rw [← m2] at q
    revert q; decide
  · rw [show x = aN A from hx, g2]; show (0 : Nat) ≠ 4; decide
  · rw [ad_2, ← z, g2] at hE
    exact absurd (show (0 : Nat) = 2 from congrArg Prod.fst hE) (by decide)
theorem RepB.noRs {xs : List Nat} {cp e : Nat} {mc : Int32} (h : RepB M A Γ σ γ b) (hw : Wf M) (hq : Sq M (aQ A) = some (xs, cp, e, mc)) : RepB (qput M (aQ A) (some ([], cp, e, mc + 1))) A Γ (uRs σ []) γ b := by
  have ex : Ext M (qput M (aQ A) (some ([], cp, e, mc + 1))) no2 (fun x => x = aQ A) no1 no1 := ext_qput
  obtain ⟨k1, k2, k3, k4, k5, ⟨c0, -⟩, k7⟩ := h
  have hE := (k2.2.1 (2, 0) act_2).2
  refine ⟨(k1.ext ex (fun _ => id) (fun _ => id) (fun x hx => ?_)).cg rfl rfl, k2.ext ex (fun _ => id) (fun _ => id) (fun _ => id) (fun _ => False.elim) (fun x hx => ?_), k3, k4.ext ex (fun _ => id) ⟨id, id, id⟩, (k5.ext ex (fun _ => id) (fun _ => id) (fun _ => id) (fun _ => False.elim) (fun _ => False.elim)).cg rfl rfl rfl rfl rfl rfl, ⟨c0, [], ⟨_, by rw [Sq_qput, if_pos rfl]⟩, rfl, fun k a x hk => by cases hk⟩, k7.less hw hq (Nat.zero_le _) (fun z => ?_)⟩
  · rw [show x = aQ A from hx, c0]; exact ⟨by show (4 : Nat) ≠ 0; decide, by show (4 : Nat) ≠ 5; decide⟩
  · rw [show x = aQ A from hx, c0]; exact Or.inr (Or.inl rfl)
  · rw [ad_2, ← z, c0] at hE
    exact absurd (show (4 : Nat) = 2 from congrArg Prod.fst hE) (by decide)
/-- the same, with other tokens where there is no node -/
theorem RepB.cg2 (h : RepB M A Γ σ γ b) (hs : same6 σ σ') (hR : sR σ' = sR σ) (hK : sK σ' = sK σ) (hT : ∀ i, i < (sN σ).length → sT σ' i = sT σ i) : RepB M A Γ σ' γ b := by
  have hx := h.cg (σ' := uT σ' (sT σ)) (by
    obtain ⟨s1, s2, s3, s4, s5, s6⟩ := hs
    exact ⟨by rw [sN_uT, s1], by rw [sC_uT, s2], by rw [sA_uT, s3], by rw [sLe_uT, s4], by rw [sCe_uT, s5], by rw [sRs_uT, s6]⟩) (by rw [sT_uT]) (by rw [sR_uT, hR]) (by rw [sK_uT, hK])
  obtain ⟨k1, k2, ⟨p1, p2, p3, p4, p5, p6, p7⟩, k4, k5, k6, k7⟩ := hx
  rw [sN_uT] at k2 p2 p4
  refine ⟨k1.cg (by rw [sN_uT]) rfl, k2, ⟨p1, p2, p3, fun i hi => ?_, by rw [sR_uT] at p5; exact p5, p6, p7⟩, by rw [sC_uT] at k4; exact k4, k5.cg (by rw [sA_uT]) (by rw [sLe_uT]) (by rw [sCe_uT]) rfl rfl rfl, k6.cg (by rw [sRs_uT]) rfl, by rw [sK_uT] at k7; exact k7⟩
  obtain ⟨a1, a2, a3⟩ := p4 i hi
  rw [sT_uT] at a1 a3
  rw [hT i (by rw [hs.1] at hi; exact hi)]
  exact ⟨a1, a2, a3⟩
/-- a cell loses its value -/
def cnul (σ : hs_S) (d : Nat) : hs_S := uCe σ (fun x => if x = d then none else sCe σ x)
theorem RepB.unwr {a d : Nat} (h : RepB M A Γ σ γ b) (hd : gcd γ d = some a) : RepB (oput M 2 a (some [.ref (gkl γ d), .ref (aV A)])) A Γ (cnul σ d) γ b := by
  have e : Ext M (oput M 2 a (some [.ref (gkl γ d), .ref (aV A)])) (fun c x => c = 2 ∧ x = a) no1 no1 no1 := ext_oput
  obtain ⟨k1, k2, k3, k4, ⟨c1, ⟨c2, c3⟩, ⟨fl, c4, c5⟩, c6, c10, c11⟩, k6, k7⟩ := h
  have n2 : ∀ c, c ≠ 2 → ∀ x, ¬ (c = 2 ∧ x = a) := fun c hc x z => hc z.1
  refine ⟨(k1.ext e (n2 7 (by decide)) (n2 1 (by decide)) (fun _ => False.elim)).cg rfl rfl, k2.ext e (n2 9 (by decide)) (n2 5 (by decide)) (n2 6 (by decide)) (fun _ => False.elim) (fun _ => False.elim), k3, k4.ext e (n2 4 (by decide)) ⟨id, id, id⟩, ⟨e.so c1 (n2 3 (by decide) _), ⟨c2, c3⟩, ⟨fl, c4, c5⟩, c6, fun d' a' hd' => ?_, c11⟩, (k6.ext e (n2 9 (by decide)) (n2 8 (by decide)) (fun _ => False.elim)).cg rfl rfl, k7.same rfl rfl (fun _ => rfl)⟩
  obtain ⟨m1, m2, u, m3, m4⟩ := c10 d' a' hd'
  by_cases hdd : d' = d
  · rw [hdd, hd] at hd'
    cases hd'
    refine ⟨m1, m2, aV A, by rw [So_oput, if_pos ⟨rfl, rfl⟩, hdd], ?_⟩
    show OV _ _ _ (if d' = d then none else sCe σ d')
    rw [if_pos hdd]
    exact Or.inl ⟨rfl, rfl⟩
  · have hne : a' ≠ a := fun zz => by
      have q := (c10 d a hd).2.1
      rw [← zz, m2] at q
      exact hdd (Prod.mk.inj q).2
    refine ⟨m1, m2, u, by rw [So_oput, if_neg (fun zz => hne zz.2)]; exact m3, ?_⟩
    show OV _ _ _ (if d' = d then none else sCe σ d')
    rw [if_neg hdd]
    exact m4.ext e (n2 9 (by decide))
/-- a frame goes back; which frames there are, and where the others lie -/
theorem ct_takeBack2 {f : Nat} (h : RepB M A Γ σ γ b) (hfl : fly γ f) (hb : b ≤ 14400000) : CT G 7 157 mX5_takeBack [.ref (aF A), .ref f] M (fun r M1 => r = none ∧ ∃ γ1, RepB M1 A Γ σ γ1 b ∧ gMD γ1 = gMD γ ∧ (∀ g, g ≠ f → gpl γ1 g = gpl γ g) ∧ (gcd γ1 = gcd γ ∧ gkl γ1 = gkl γ) ∧ XF M M1) := by
  refine ct_wf fun hw => ?_
  refine ct_go (by decide +kernel) (Nat.le_of_ble_eq_true rfl) (L := [(0, .ref (aF A)), (1, .ref f)]) rfl ?_
  obtain ⟨hfr, hnv⟩ := h.2.1.2.2.2
  obtain ⟨⟨⟨cp, e, mc⟩, hy⟩, hro⟩ := h.2.1.2.1 (2, 0) act_2
  rw [ad_2] at hy hro
  obtain ⟨va, w0, w1, w2, p1, p2, p3, p4, p5, p6⟩ := h.2.1.2.2.1 f hfl.1
  refine xw_aload_n dX5_takeBack_0 rfl rfl ?_
  refine xw_callV (q2 := mX4_empty) (n2 := 0) (ci := 5) (Bs := []) (rest := []) (ct_empty p2 p3 hnv) dX5_takeBack_1 rfl (o_at p2) rfl rfl tw_442 tw_443 tw_444 tw_61 tw_445 (by decide +kernel) rfl (Nat.le_of_ble_eq_true rfl) (Nat.le_of_ble_eq_true rfl) (Nat.le_of_ble_eq_true rfl) (fun rr M1 hr hle1 => ?_)
  obtain ⟨rfl, rfl⟩ := hr
  refine xw_wf fun hw2 => ?_
  have e1 : Ext M (oput (rput M 1 va (some (3, v3 (some (aV A)) (some (aV A)) (some (aV A))))) 5 f (some [.ref (aV A), .ref va, .ref (gna γ f), .int (gfc γ f), .int 0])) (fun c' x => c' = 5 ∧ x = f) no1 (fun x => x = va) no1 := (ext_rput.mono (fun _ _ => False.elim) (fun _ => id) (fun _ => id) (fun _ => id)).tr (ext_oput.mono (fun _ _ => id) (fun _ => id) (fun _ => False.elim) (fun _ => id))
  have hR := h.filled (na := gna γ f) (c := gfc γ f) (t := no3) (σ' := σ) e1 p1 ⟨va, aV A, aV A, aV A, p1, by rw [So_oput, if_pos ⟨rfl, rfl⟩]; rfl, by rw [Sr_oput, Sr_rput, if_pos ⟨rfl, rfl⟩], Or.inl ⟨rfl, rfl⟩, Or.inl ⟨rfl, rfl⟩, Or.inl ⟨rfl, rfl⟩⟩ (h.2.2.1.flown hfl) ⟨rfl, rfl, rfl, rfl, rfl, rfl⟩ rfl rfl rfl (fun _ => rfl)
  have hfl2 : fly (fill γ f (gna γ f) (gfc γ f) no3) f := hfl
  have hlt : (gG γ (2, 0)).length < (gMD γ).length := sub_len (f :: gG γ (2, 0)) (gMD γ) (List.nodup_cons.mpr ⟨fly.out (n := 0) h.2.2.1 hfl act_2, (h.2.2.1.2.1 _ act_2).1⟩) (fun x hx => by
    rcases List.mem_cons.mp hx with hx | hx
    · rw [hx]; exact hfl.1
    · exact h.inMD act_2 hx)
  refine xw_aload_n dX5_takeBack_4 rfl rfl ?_
  refine xw_get (ci := 6) (k := 2) (v := .ref (aE A)) dX5_takeBack_5 (e1.so hfr (fun z => absurd z.1 (by decide))) rfl inX5 (by decide) tw_126 (Or.inl rfl) rfl ?_
  refine xw_aload_n dX5_takeBack_8 rfl rfl ?_
  have hy2 : Sq (oput (rput M 1 va (some (3, v3 (some (aV A)) (some (aV A)) (some (aV A))))) 5 f (some [.ref (aV A), .ref va, .ref (gna γ f), .int (gfc γ f), .int 0])) (aE A) = some (gG γ (2, 0), cp, e, mc) := hy
  refine xw_callV (q2 := mJx4a65c_add_9ea2d) (n2 := 1) (ci := 0) (Bs := [.ref f]) (rest := []) (ct_add (ci := 5) hy2 (hR.2.2.2.2.2.2.cap (by omega) hy2) (by decide) (by rw [So_oput, if_pos ⟨rfl, rfl⟩]) rfl ks_F (fun g hg => hR.isF (hR.inMD act_2 hg))) dX5_takeBack_9 rfl (q_at hy2) rfl rfl tw_398 tw_280 tw_281 tw_43 tw_282 (by decide +kernel) rfl (Nat.le_of_ble_eq_true rfl) (Nat.le_of_ble_eq_true rfl) (Nat.le_of_ble_eq_true rfl) (fun rr M1 hr hle1 => ?_)
  obtain ⟨rfl, rfl⟩ := hr
  refine xw_pop dX5_takeBack_12 rfl ?_
  exact xw_vret rfl dX5_takeBack_13 ⟨rfl, _, hR.list (r0 := (2, 0)) (r1 := (2, 0)) (f := f) (σ' := σ) act_2 ext_addq lq_addq (hR.2.2.1.free hfl2 (if_pos rfl)) ⟨rfl, rfl, rfl, rfl, rfl, rfl⟩ (hR.2.2.2.2.2.2.addF hw2 hy2 hlt), rfl, fun g hg => if_neg hg, ⟨rfl, rfl⟩, (e1.mono (fun _ _ z => z.1) (fun _ _ => trivial) (fun _ _ => trivial) (fun _ => id)).tr (ext_addq.mono (fun _ _ => False.elim) (fun _ _ => trivial) (fun _ _ => trivial) (fun _ => id))⟩
/-- all lists of frames but that of the free ones are empty -/
def alone (σ : hs_S) (γ : hf_S) : Prop := ∀ r, act (sN σ).length γ r → r ≠ (2, 0) → gG γ r = []
theorem ct_takeAllBack (h : RepB M A Γ σ γ b) (hal : alone σ γ) (hb : b ≤ 14400000) : CT G 8 178 mX5_takeAllBack [.ref (aF A)] M (fun r M1 => r = none ∧ ∃ γ1, RepB M1 A Γ σ γ1 b ∧ XF M M1) := by
  obtain ⟨L, hL⟩ : ∃ L, L = gMD γ := ⟨_, rfl⟩
  have loop : ∀ (k j : Nat) (M' : hx_S) (γ' : hf_S), j + k = L.length → RepB M' A Γ σ γ' b → gMD γ' = L → (∀ i f, j ≤ i → L[i]? = some f → gpl γ' f = (4, 0)) → XF M M' → XW G 8 178 mX5_takeAllBack [.ref (aF A)] M (fun r M1 => r = none ∧ ∃ γ1, RepB M1 A Γ σ γ1 b ∧ XF M M1) M' 9 [(1, .int (nI j)), (0, .ref (aF A))] [] := by
    intro k
    induction k with
    | zero =>
      intro j M' γ' hjk hR hmd hpl hX
      obtain ⟨hfr, hnv⟩ := hR.2.1.2.2.2
      obtain ⟨y, hy⟩ := hR.2.1.1.1
      rw [hmd] at hy
      have hcap := hR.2.2.2.2.2.2.cap (by omega) hy
      have hcl := (fun (hw : Wf M') => (hw.2.2.2.2 _ _ hy).2.2.1)
      simp only at hcap hcl
      refine xw_wf fun hw => ?_
      have hcl' := hcl hw
      refine xw_iload_n dX5_takeAllBack_9 rfl rfl ?_
      refine xw_aload_n dX5_takeAllBack_10 rfl rfl ?_
      refine xw_get (ci := 6) (k := 1) (v := .ref (aM A)) dX5_takeAllBack_11 hfr rfl inX5 (by decide) tw_125 (Or.inl rfl) rfl ?_
      refine xw_callV (q2 := mJx4a65c_size_8abf5) (n2 := 0) (ci := 0) (Bs := []) (rest := [.int (nI j)]) (ct_size hy) dX5_takeAllBack_14 rfl (q_at hy) rfl rfl tw_399 tw_229 tw_230 tw_43 tw_231 (by decide +kernel) rfl (Nat.le_of_ble_eq_true rfl) (Nat.le_of_ble_eq_true rfl) (Nat.le_of_ble_eq_true rfl) (fun rr M1 hr hle1 => ?_)
      obtain ⟨rfl, hM1⟩ := hr
      obtain rfl := hM1.symm
      refine xw_icmp_ge (tgt := 41) dX5_takeAllBack_17 (by decide) (fun _ => ?_) (fun zz => absurd (nI_le (show L.length ≤ j by omega) (by omega)) zz)
      exact xw_vret rfl dX5_takeAllBack_41 ⟨rfl, γ', hR, hX⟩
    | succ k ih =>
      intro j M' γ' hjk hR hmd hpl hX
      obtain ⟨hfr, hnv⟩ := hR.2.1.2.2.2
      obtain ⟨y, hy⟩ := hR.2.1.1.1
      rw [hmd] at hy
      have hcap := hR.2.2.2.2.2.2.cap (by omega) hy
      have hcl := (fun (hw : Wf M') => (hw.2.2.2.2 _ _ hy).2.2.1)
      simp only at hcap hcl
      refine xw_wf fun hw => ?_
      have hcl' := hcl hw
      have hjl : j < L.length := by omega
      obtain ⟨f, hf0⟩ : ∃ f, f = L[j] := ⟨_, rfl⟩
      have hel : L[j]? = some f := by rw [List.getElem?_eq_getElem hjl, hf0]
      have hmem : f ∈ gMD γ' := by rw [hmd]; exact List.mem_of_getElem? hel
      obtain ⟨vs, p2⟩ := hR.isF hmem
      have hfl : fly γ' f := ⟨hmem, hpl j f (Nat.le_refl _) hel⟩
      refine xw_iload_n dX5_takeAllBack_9 rfl rfl ?_
      refine xw_aload_n dX5_takeAllBack_10 rfl rfl ?_
      refine xw_get (ci := 6) (k := 1) (v := .ref (aM A)) dX5_takeAllBack_11 hfr rfl inX5 (by decide) tw_125 (Or.inl rfl) rfl ?_
      refine xw_callV (q2 := mJx4a65c_size_8abf5) (n2 := 0) (ci := 0) (Bs := []) (rest := [.int (nI j)]) (ct_size hy) dX5_takeAllBack_14 rfl (q_at hy) rfl rfl tw_399 tw_229 tw_230 tw_43 tw_231 (by decide +kernel) rfl (Nat.le_of_ble_eq_true rfl) (Nat.le_of_ble_eq_true rfl) (Nat.le_of_ble_eq_true rfl) (fun rr M1 hr hle1 => ?_)
      obtain ⟨rfl, hM1⟩ := hr
      obtain rfl := hM1.symm
      refine xw_icmp_ge (tgt := 41) dX5_takeAllBack_17 (by decide) (fun zz => absurd zz (nI_ge hjl (show L.length < 2 ^ 31 by omega))) (fun _ => ?_)
      refine xw_aload_n dX5_takeAllBack_20 rfl rfl ?_
      refine xw_aload_n dX5_takeAllBack_21 rfl rfl ?_
      refine xw_get (ci := 6) (k := 1) (v := .ref (aM A)) dX5_takeAllBack_22 hfr rfl inX5 (by decide) tw_125 (Or.inl rfl) rfl ?_
      refine xw_iload_n dX5_takeAllBack_25 rfl rfl ?_
      refine xw_pc (pc2 := 26) rfl ?_
      refine xw_callV (q2 := mJx4a65c_get_915e3) (n2 := 1) (ci := 0) (Bs := [.int (nI j)]) (rest := [.ref (aF A)]) (ct_get hy hjl (by show y.1 < 2 ^ 31; omega)) dX5_takeAllBack_26 rfl (q_at hy) rfl rfl tw_437 tw_233 tw_234 tw_43 tw_235 (by decide +kernel) rfl (Nat.le_of_ble_eq_true rfl) (Nat.le_of_ble_eq_true rfl) (Nat.le_of_ble_eq_true rfl) (fun rr M1 hr hle1 => ?_)
      obtain ⟨rfl, hM1⟩ := hr
      obtain rfl := hM1.symm
      refine Eq.mp (congrArg (fun z => XW G 8 178 mX5_takeAllBack [.ref (aF A)] M _ _ _ _ [.ref z, .ref (aF A)]) hf0) ?_
      refine xw_cast (ci := 5) dX5_takeAllBack_29 p2 rfl tw_367 ?_
      refine xw_callV (q2 := mX5_takeBack) (n2 := 1) (ci := 6) (Bs := [.ref f]) (rest := []) (ct_takeBack2 hR hfl hb) dX5_takeAllBack_32 rfl (o_at hfr) rfl rfl tw_438 tw_439 tw_440 tw_44 tw_441 (by decide +kernel) rfl (Nat.le_of_ble_eq_true rfl) (Nat.le_of_ble_eq_true rfl) (Nat.le_of_ble_eq_true rfl) (fun rr M1 hr hle1 => ?_)
      obtain ⟨rfl, γ1, hR1, hmd1, hpl1, -, hX1⟩ := hr
      refine xw_iinc (v := (nI j) + 1) (L2 := [(1, .int ((nI j) + 1)), (0, .ref (aF A))]) dX5_takeAllBack_35 rfl rfl (by decide) rfl ?_
      refine xw_goto (tgt := 9) dX5_takeAllBack_38 (by decide) ?_
      rw [nI_1]
      refine ih (j + 1) M1 γ1 (by omega) hR1 (hmd1.trans hmd) (fun i g hi hg => ?_) (hX.tr hX1)
      rw [hpl1 g (fun z => ?_)]
      · exact hpl i g (by omega) hg
      · have hnd : L.Nodup := by rw [← hmd]; exact hR.2.2.1.1
        rw [z, ← hel] at hg
        have q1 := (List.getElem?_eq_some_iff.mp (hel ▸ hg : L[i]? = some f)).1
        have := (List.getElem?_inj q1 hnd).mp hg
        omega
  refine ct_wf fun hw => ?_
  refine ct_go (by decide +kernel) (Nat.le_of_ble_eq_true rfl) (L := [(0, .ref (aF A))]) rfl ?_
  obtain ⟨hfr, hnv⟩ := h.2.1.2.2.2
  obtain ⟨⟨⟨cp, e, mc⟩, hy⟩, hro⟩ := h.2.1.2.1 (2, 0) act_2
  rw [ad_2] at hy hro
  have hcap := h.2.2.2.2.2.2.cap (by omega) hy
  simp only at hcap
  refine xw_aload_n dX5_takeAllBack_0 rfl rfl ?_
  refine xw_get (ci := 6) (k := 2) (v := .ref (aE A)) dX5_takeAllBack_1 hfr rfl inX5 (by decide) tw_126 (Or.inl rfl) rfl ?_
  refine xw_callV (q2 := mJx4a65c_clear_da8c8) (n2 := 0) (ci := 0) (Bs := []) (rest := []) (ct_lclear hy (by show cp ≤ 20000001; omega)) dX5_takeAllBack_4 rfl (q_at hy) rfl rfl tw_436 tw_424 tw_425 tw_43 tw_426 (by decide +kernel) rfl (Nat.le_of_ble_eq_true rfl) (Nat.le_of_ble_eq_true rfl) (Nat.le_of_ble_eq_true rfl) (fun rr M1 hr hle1 => ?_)
  obtain ⟨rfl, hM1⟩ := hr
  have e1 : Ext M M1 no2 (fun x => x = aE A) no1 no1 := by rw [hM1]; exact ext_qput
  have hR1 : RepB M1 A Γ σ (dl γ (2, 0)) b := by
    rw [hM1]
    refine h.dl (r0 := (2, 0)) (σ' := σ) act_2 ext_qput ⟨_, by rw [ad_2, Sq_qput, if_pos rfl]⟩ (h.2.2.1.one rfl (fun i hi => Or.inr ⟨fun z => absurd (show (6 : Nat) = 2 from congrArg Prod.fst z) (by decide), rfl⟩) (Or.inr ⟨fun z => absurd (show (3 : Nat) = 2 from congrArg Prod.fst z) (by decide), rfl⟩) (fun c => Or.inr ⟨fun z => absurd (show (7 : Nat) = 2 from congrArg Prod.fst z) (by decide), rfl⟩)) ⟨rfl, rfl, rfl, rfl, rfl, rfl⟩ ?_
    rw [if_pos rfl]
    exact h.2.2.2.2.2.2.lessF hy
  have hno : ∀ r, act (sN σ).length γ r → gG (dl γ (2, 0)) r = [] := fun r hr => by
    rw [dl_G]
    by_cases z : r = (2, 0)
    · rw [if_pos z]
    · rw [if_neg z]; exact hal r hr z
  have hR2 : RepB M1 A Γ σ (wpl (dl γ (2, 0)) (fun _ => (4, 0))) b := by
    obtain ⟨k1, k2, ⟨p1, p2, p3, p4, p5, p6, p7⟩, k4, k5, k6, k7⟩ := hR1
    refine ⟨k1, k2, ⟨p1, fun r hr => ?_, p3, p4, p5, p6, p7⟩, k4, k5, k6, k7⟩
    have hr' : act (sN σ).length γ r := hr
    rw [show gG (wpl (dl γ (2, 0)) (fun _ => (4, 0))) r = [] from hno r hr']
    exact ⟨List.nodup_nil, fun f hf => by cases hf⟩
  refine xw_iconst (v := 0) dX5_takeAllBack_7 (by decide) ?_
  refine xw_istore_n (L2 := [(1, .int 0), (0, .ref (aF A))]) dX5_takeAllBack_8 rfl (by decide) rfl ?_
  exact xw_pc rfl (loop L.length 0 M1 _ (by omega) hR2 hL.symm (fun i f _ _ => rfl) (e1.mono (fun _ _ => False.elim) (fun _ _ => trivial) (fun _ => False.elim) (fun _ => id)))
end DROP
