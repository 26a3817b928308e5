/-! THE CLASS: arc -/
def addA (σ : hs_S) (i s j p : Nat) : hs_S := uN σ ((sN σ).set i ((nd σ i).1, (nd σ i).2.1, (nd σ i).2.2 ++ [(s, j, p)]))
abbrev inN (σ : hs_S) (k : Int32) : Prop := ¬ k < 0 ∧ k < nI (sN σ).length
abbrev arcC (σ : hs_S) (f s t p : Int32) : Prop := sB σ = 0 ∧ inN σ f ∧ inN σ t ∧ (s = 0 ∨ (s = 1 ∧ (nd σ f.toNatClampNeg).1 = 7)) ∧ (¬ p < 0 ∧ ¬ nI (pts σ t.toNatClampNeg) ≤ p) ∧ (nd σ f.toNatClampNeg).2.2.length < 6
def arcS (σ : hs_S) (f s t p : Int32) : hs_S := if arcC σ f s t p then addA σ f.toNatClampNeg s.toNatClampNeg t.toNatClampNeg p.toNatClampNeg else σ
section ARC
variable {G : hx_G} {M M1 : hx_S} {A : hA} {Γ : hG} {σ : hs_S} {γ : hf_S} {b i s j p : Nat}
theorem ks_A : ∀ s : State, KS G s → va_Nw (.castable RX0 "java/lang/Object") s := fun s h => h.2.2.2.1.1
theorem len_arc : (sN (addA σ i s j p)).length = (sN σ).length := List.length_set
theorem at_arc (k : Nat) (hi : i < (sN σ).length) : (sN (addA σ i s j p))[k]? = if i = k then some ((nd σ i).1, (nd σ i).2.1, (nd σ i).2.2 ++ [(s, j, p)]) else (sN σ)[k]? := by
  show ((sN σ).set i _)[k]? = _
  rw [List.getElem?_set]
  by_cases h : i = k
  · rw [if_pos h, if_pos (by omega), if_pos h]
  · rw [if_neg h, if_neg h]
theorem nd_arc (hi : i < (sN σ).length) (k : Nat) : (nd (addA σ i s j p) k).1 = (nd σ k).1 := by
  unfold nd
  rw [at_arc k hi]
  by_cases h : i = k
  · rw [if_pos h, ← h]
    show (nd σ i).1 = _
    unfold nd
    rfl
  · rw [if_neg h]
theorem pts_arc (hi : i < (sN σ).length) (k : Nat) : pts (addA σ i s j p) k = pts σ k := by unfold pts; rw [nd_arc hi]
theorem GS.arc (h : GS σ) (hi : i < (sN σ).length) (hs : s ≤ 1) (hj : j < (sN σ).length) (hp : p < pts σ j) (hl : (nd σ i).2.2.length < 6) : GS (addA σ i s j p) := by
  obtain ⟨k1, k2, k3, k4, k5, k6, k7, k8, k9, k10⟩ := h
  refine ⟨by rw [len_arc]; exact k1, fun k x hx => ?_, k3, k4, fun k c => ⟨?_, fun z => ?_⟩, fun x hx => ?_, fun x hx => ?_, k8, k9, k10⟩
  · rw [at_arc k hi] at hx
    by_cases h : i = k
    · rw [if_pos h] at hx
      cases hx
      obtain ⟨a1, a2, a3⟩ := k2 i _ (nd_at hi)
      refine ⟨a1, ?_, fun e he => ?_⟩
      · show ((nd σ i).2.2 ++ [(s, j, p)]).length ≤ 6
        rw [List.length_append, List.length_singleton]; omega
      · rw [len_arc, pts_arc hi]
        rcases List.mem_append.mp he with he | he
        · exact a3 e he
        · rw [List.mem_singleton.mp he]; exact ⟨hs, hj, hp⟩
    · rw [if_neg h] at hx
      obtain ⟨a1, a2, a3⟩ := k2 k x hx
      exact ⟨a1, a2, fun e he => by rw [len_arc, pts_arc hi]; exact a3 e he⟩
  · show GT (sA σ) (pts (addA σ i s j p) k) (sT σ k c)
    rw [pts_arc hi]; exact (k5 k c).1
  · rw [len_arc]; exact (k5 k c).2 z
  · rw [len_arc, pts_arc hi]; exact k6 x hx
  · rw [len_arc]; exact k7 x hx
/-- a new Arc -/
def nar3 (M : hx_S) (s : Int32) (a : Nat) (p : Int32) : hx_S := oput (grow M 3 1) 1 (Sz M) (some [.int s, .ref a, .int p])
theorem RepB.arc {q : List Nat × Nat × Nat × Int32} (h : RepB M A Γ σ γ b) (hw : Wf M) (hi : i < (sN σ).length) (hq : Sq M (nar Γ i) = some q) : RepB (addq (nar3 M (nI s) (nad Γ j) (nI p)) (nar Γ i) q (Sz M)) A Γ (addA σ i s j p) γ (b + 78) := by
  have e1 : Ext M (nar3 M (nI s) (nad Γ j) (nI p)) no2 no1 no1 no1 := ext_new hw
  have e2 : Ext (nar3 M (nI s) (nad Γ j) (nI p)) (addq (nar3 M (nI s) (nad Γ j) (nI p)) (nar Γ i) q (Sz M)) no2 (fun x => x = nar Γ i) no1 no1 := ext_addq
  have e : Ext M (addq (nar3 M (nI s) (nad Γ j) (nI p)) (nar Γ i) q (Sz M)) no2 (fun x => x = nar Γ i) no1 no1 := (e1.mono (fun _ _ => id) (fun _ => False.elim) (fun _ => id) (fun _ => id)).tr e2
  obtain ⟨⟨g1, g2, g3⟩, k2, k3, k4, k5, k6, k7⟩ := h
  obtain ⟨n1, n2, ys, ⟨y, n3⟩, n4, n5⟩ := g3 i _ (nd_at hi)
  have hq1 : q = (ys, y) := by rw [hq] at n3; exact Option.some.inj n3
  have hE := (k2.2.1 (2, 0) act_2).2
  have hw1 : Wf (nar3 M (nI s) (nad Γ j) (nI p)) := Wf.newo hw (by decide)
  have h5 : (gro γ (nar Γ i)).1 = 5 := by rw [n2]
  refine ⟨⟨?_, g2, fun k x hx => ?_⟩, ?_, ?_, k4.ext e (fun _ => id) ⟨id, id, id⟩, (k5.ext e (fun _ => id) (fun _ => id) (fun _ => id) (fun _ => False.elim) (fun _ => False.elim)).cg rfl rfl rfl rfl rfl rfl, (k6.ext e (fun _ => id) (fun _ => id) (fun x hx => ?_)).cg rfl rfl, ?_⟩
  · rw [len_arc]
    refine e.lq g1 (fun z => ?_)
    rw [← show aN A = nar Γ i from z, g2] at n2
    exact absurd (show (0 : Nat) = 5 from congrArg Prod.fst n2) (by decide)
  · rw [at_arc k hi] at hx
    by_cases hk : i = k
    · rw [if_pos hk] at hx
      cases hx
      subst hk
      refine ⟨e.so n1 id, n2, ys ++ [Sz M], by rw [show ys = q.1 by rw [hq1]]; exact lq_addq, ?_, fun k a w hk hw' => ?_⟩
      · show (ys ++ [Sz M]).length = ((nd σ i).2.2 ++ [(s, j, p)]).length
        rw [List.length_append, List.length_append, n4]; rfl
      · have hw2 : ((nd σ i).2.2 ++ [(s, j, p)])[k]? = some w := hw'
        by_cases hkl : k < ys.length
        · rw [List.getElem?_append_left hkl] at hk
          rw [List.getElem?_append_left (by omega)] at hw2
          exact e.so (n5 k a w hk hw2) id
        · rw [List.getElem?_append_right (by omega)] at hk
          rw [List.getElem?_append_right (by omega)] at hw2
          have q1 := (List.getElem?_eq_some_iff.mp hk).1
          rw [List.length_singleton] at q1
          rw [show k - ys.length = 0 by omega] at hk
          rw [show k - (nd σ i).2.2.length = 0 by omega] at hw2
          cases hk
          cases hw2
          rw [So_addq]
          unfold nar3
          rw [So_oput, if_pos ⟨rfl, rfl⟩]
    · rw [if_neg hk] at hx
      obtain ⟨m1, m2, zs, m3, m4, m5⟩ := g3 k x hx
      refine ⟨e.so m1 id, m2, zs, e.lq m3 (fun z => ?_), m4, fun k' a w hk' hw' => e.so (m5 k' a w hk' hw') id⟩
      rw [show nar Γ k = nar Γ i from z, n2] at m2
      exact hk (Prod.mk.inj m2).2
  · rw [len_arc]
    exact k2.ext e (fun _ => id) (fun _ => id) (fun _ => id) (fun _ => False.elim) (fun x hx => Or.inr (Or.inr (by rw [show x = nar Γ i from hx]; exact h5)))
  · unfold PF
    rw [len_arc]
    exact k3
  · rw [show x = nar Γ i from hx, h5]; decide
  · have q1 := AP.one (M1 := nar3 M (nI s) (nad Γ j) (nI p)) (s := 3) k7 hw rfl rfl (fun _ => rfl)
    refine (q1.add (a := nar Γ i) (v := Sz M) (x := q) hw1 (e1.2.1 _ _ hq id) (fun z => ?_)).mono (by omega)
    rw [z] at n2
    rw [ad_2, n2] at hE
    exact absurd (show (5 : Nat) = 2 from congrArg Prod.fst hE) (by decide)
theorem ct_addArc (h : Rep M A Γ σ γ b) (hb : b + 100 ≤ 14400000) (hi : i < (sN σ).length) (hs : s ≤ 1) (hj : j < (sN σ).length) (hp : p < pts σ j) : CT G 7 157 mX6_addArc [.ref (nad Γ i), .int (nI s), .ref (nad Γ j), .int (nI p)] M (fun r M1 => ((nd σ i).2.2.length < 6 ∧ r = some (.int 1) ∧ Rep M1 A Γ (addA σ i s j p) γ (b + 100) ∧ XE A M M1) ∨ (¬ (nd σ i).2.2.length < 6 ∧ r = some (.int 0) ∧ M1 = M)) := by
  refine ct_wf fun hw => ?_
  refine ct_go (by decide +kernel) (Nat.le_of_ble_eq_true rfl) (L := [(0, .ref (nad Γ i)), (1, .int (nI s)), (2, .ref (nad Γ j)), (3, .int (nI p))]) rfl ?_
  have hnode := h.2.1.node hi
  have hl6 := (h.2.2.2.1 i _ (nd_at hi)).2.1
  obtain ⟨-, n2, ys, ⟨y, hy⟩, n4, n5⟩ := h.2.1.1.2.2 i _ (nd_at hi)
  have hcap := h.2.1.2.2.2.2.2.2.cap (by omega) hy
  refine xw_aload_n dX6_addArc_0 rfl rfl ?_
  refine xw_get (ci := 7) (k := 6) (v := .ref (nar Γ i)) dX6_addArc_1 hnode rfl inX6 (by decide) tw_585 (Or.inl rfl) rfl ?_
  refine xw_callV (q2 := mJx4a65c_size_8abf5) (n2 := 0) (ci := 0) (Bs := []) (rest := []) (ct_size hy) dX6_addArc_4 rfl (q_at hy) rfl rfl tw_259 tw_229 tw_230 tw_43 tw_231 (by decide +kernel) rfl (Nat.le_of_ble_eq_true rfl) (Nat.le_of_ble_eq_true rfl) (Nat.le_of_ble_eq_true rfl) (fun rr M1 hr hle1 => ?_)
  obtain ⟨rfl, hM1⟩ := hr
  obtain rfl := hM1.symm
  rw [show nI (ys, y).1.length = nI (nd σ i).2.2.length from congrArg nI n4]
  refine xw_bipush (v := 6) dX6_addArc_7 (by decide) ?_
  refine xw_icmp_lt (tgt := 14) dX6_addArc_9 (by decide) (fun d1 => ?_) (fun d1 => ?_)
  · have t0 : (nd σ i).2.2.length < 6 := Nat.lt_of_not_le (fun zz => absurd d1 (show ¬ nI (nd σ i).2.2.length < nI 6 from nI_nlt zz (by omega)))
    refine xw_aload_n dX6_addArc_14 rfl rfl ?_
    refine xw_get (ci := 7) (k := 6) (v := .ref (nar Γ i)) dX6_addArc_15 hnode rfl inX6 (by decide) tw_585 (Or.inl rfl) rfl ?_
    refine xw_new (ci := 1) (fs := [.int 0, .null, .int 0]) tyX0 dX6_addArc_18 rfl inX0 tyX0_ok (by decide) tw_260 tw_261 tw_60 (fun j hj => by rcases (show j = 0 ∨ j = 1 ∨ j = 2 by omega) with rfl | rfl | rfl <;> rfl) ?_
    refine xw_dup dX6_addArc_21 rfl ?_
    refine xw_iload_n dX6_addArc_22 rfl rfl ?_
    refine xw_aload_n dX6_addArc_23 rfl rfl ?_
    refine xw_iload_n dX6_addArc_24 rfl rfl ?_
    refine xw_callI (q2 := mX0_init) (n2 := 3) (Bs := [.int (nI s), .ref (nad Γ j), .int (nI p)]) (rest := [.ref (Sz M), .ref (nar Γ i)]) (ct_Arc (a := Sz M) (show So (oput (grow M 3 1) 1 (Sz M) _) 1 (Sz M) = some [.int 0, .null, .int 0] by rw [So_oput, if_pos ⟨rfl, rfl⟩])) rfl dX6_addArc_25 rfl rfl tw_262 tw_263 tw_60 tw_264 (by decide +kernel) rfl (Nat.le_of_ble_eq_true rfl) (Nat.le_of_ble_eq_true rfl) (Nat.le_of_ble_eq_true rfl) (fun rr M1 hr hle1 => ?_)
    obtain ⟨rfl, hM1⟩ := hr
    rw [oput_oput] at hM1
    obtain rfl : M1 = nar3 M (nI s) (nad Γ j) (nI p) := hM1
    have e1 : Ext M (nar3 M (nI s) (nad Γ j) (nI p)) no2 no1 no1 no1 := ext_new hw
    have hels : ∀ g, g ∈ (ys, y).1 → ∃ vs, So (nar3 M (nI s) (nad Γ j) (nI p)) 1 g = some vs := by
      intro g hg
      obtain ⟨k, hk⟩ := List.getElem?_of_mem hg
      have hk2 : ys[k]? = some g := hk
      have hkl : k < (nd σ i).2.2.length := by
        have := (List.getElem?_eq_some_iff.mp hk2).1
        omega
      exact ⟨_, e1.so (n5 k g _ hk2 (List.getElem?_eq_getElem hkl)) id⟩
    have hva : So (nar3 M (nI s) (nad Γ j) (nI p)) 1 (Sz M) = some [.int (nI s), .ref (nad Γ j), .int (nI p)] := by unfold nar3; rw [So_oput, if_pos ⟨rfl, rfl⟩]
    have hy4 := e1.2.1 _ _ hy id
    refine xw_callV (q2 := mJx4a65c_add_9ea2d) (n2 := 1) (ci := 0) (Bs := [.ref (Sz M)]) (rest := []) (ct_add (ci := 1) hy4 hcap (by decide) hva rfl ks_A hels) dX6_addArc_28 rfl (q_at hy4) rfl rfl tw_279 tw_280 tw_281 tw_43 tw_282 (by decide +kernel) rfl (Nat.le_of_ble_eq_true rfl) (Nat.le_of_ble_eq_true rfl) (Nat.le_of_ble_eq_true rfl) (fun rr M1 hr hle1 => ?_)
    obtain ⟨rfl, rfl⟩ := hr
    refine xw_pop dX6_addArc_31 rfl ?_
    refine xw_iconst (v := 1) dX6_addArc_32 (by decide) ?_
    exact xw_zret rfl (by rfl) dX6_addArc_33 (Or.inl ⟨t0, rfl, ⟨by rw [So_addq]; exact e1.so h.1 id, (h.2.1.arc hw hi hy).mono (by omega), h.2.2.arc hi hs hj hp t0⟩, Ext.tr (e1.mono (fun _ _ => False.elim) (fun _ => False.elim) (fun _ => False.elim) (fun _ => False.elim)) (ext_addq.mono (fun _ _ => False.elim) (fun _ _ => trivial) (fun _ => False.elim) (fun _ => False.elim))⟩)
  · have t0 : ¬ (nd σ i).2.2.length < 6 := fun zz => d1 (show nI (nd σ i).2.2.length < nI 6 from nI_lt zz (by decide))
    refine xw_iconst (v := 0) dX6_addArc_12 (by decide) ?_
    exact xw_zret rfl (by rfl) dX6_addArc_13 (Or.inr ⟨t0, rfl, rfl⟩)
theorem ct_arc (h : Rep M A Γ σ γ b) (hb : b + 100 ≤ 14400000) {f sd t pt : Int32} : CT G 8 180 mX9_arc [.ref (aT A), .int f, .int sd, .int t, .int pt] M (fun r M1 => r = some (.int (if arcC σ f sd t pt then 1 else 0)) ∧ ∃ γ1, Rep M1 A Γ (arcS σ f sd t pt) γ1 (b + 100) ∧ XE A M M1) := by
  have no : ¬ arcC σ f sd t pt → (some (Value.int 0) = some (Value.int (if arcC σ f sd t pt then 1 else 0)) ∧ ∃ γ1, Rep M A Γ (arcS σ f sd t pt) γ1 (b + 100) ∧ XE A M M) := fun hn => ⟨by rw [if_neg hn], γ, by unfold arcS; rw [if_neg hn]; exact h.mono (by omega), XE.rf _ _⟩
  have h40 := h.2.2.1
  have hH := h.hdr
  have hb1 := h.2.2.2.2.2.2.2.2.2.2.1.2.2.2.2.2
  have o18 : ∀ k, k < (sN σ).length → (nd σ k).1 < 18 := fun k hk => (h.2.2.2.1 k _ (nd_at hk)).1
  refine ct_go (by decide +kernel) (Nat.le_of_ble_eq_true rfl) (L := [(0, .ref (aT A)), (1, .int f), (2, .int sd), (3, .int t), (4, .int pt)]) rfl ?_
  refine xw_aload_n dX9_arc_0 rfl rfl ?_
  refine xw_iload_n dX9_arc_1 rfl rfl ?_
  refine xw_pc (pc2 := 2) rfl ?_
  refine xw_callV (q2 := mX9_nodeAt) (n2 := 1) (ci := 10) (Bs := [.int f]) (rest := []) (ct_nodeAt h (by omega)) dX9_arc_2 rfl (o_at h.1) rfl rfl tw_224 tw_226 tw_0 tw_39 tw_227 (by decide +kernel) rfl (Nat.le_of_ble_eq_true rfl) (Nat.le_of_ble_eq_true rfl) (Nat.le_of_ble_eq_true rfl) (fun rr M1 hr hle1 => ?_)
  obtain ⟨hM1, hqf⟩ := hr
  obtain rfl := hM1.symm
  rcases hqf with ⟨rfl, hnf⟩ | ⟨i, hi, hfi, rfl⟩
  · skip
    refine xw_astoreN (L2 := [(5, .null), (0, .ref (aT A)), (1, .int f), (2, .int sd), (3, .int t), (4, .int pt)]) dX9_arc_5 (by decide) rfl ?_
    refine xw_aload_n dX9_arc_7 rfl rfl ?_
    refine xw_iload_n dX9_arc_8 rfl rfl ?_
    refine xw_callV (q2 := mX9_nodeAt) (n2 := 1) (ci := 10) (Bs := [.int t]) (rest := []) (ct_nodeAt h (by omega)) dX9_arc_9 rfl (o_at h.1) rfl rfl tw_224 tw_226 tw_0 tw_39 tw_227 (by decide +kernel) rfl (Nat.le_of_ble_eq_true rfl) (Nat.le_of_ble_eq_true rfl) (Nat.le_of_ble_eq_true rfl) (fun rr M1 hr hle1 => ?_)
    obtain ⟨hM1, hqt⟩ := hr
    obtain rfl := hM1.symm
    rcases hqt with ⟨rfl, hnt⟩ | ⟨j, hj, htj, rfl⟩
    · skip
      refine xw_astoreN (L2 := [(6, .null), (5, .null), (0, .ref (aT A)), (1, .int f), (2, .int sd), (3, .int t), (4, .int pt)]) dX9_arc_12 (by decide) rfl ?_
      refine xw_aload_n dX9_arc_14 rfl rfl ?_
      refine xw_get (ci := 10) (k := 12) (v := .int (nI (sB σ))) dX9_arc_15 hH rfl inX9 (by decide) tw_192 (Or.inl rfl) rfl ?_
      refine xw_if_ne (tgt := 31) dX9_arc_18 (by decide) (fun d1 => ?_) (fun d1 => ?_)
      · skip
        refine xw_iconst (v := 0) dX9_arc_31 (by decide) ?_
        exact xw_zret rfl (by rfl) dX9_arc_32 (no (fun z => hnf z.2.1))
      · skip
        refine xw_aloadN dX9_arc_21 rfl ?_
        refine xw_ifnullN (tgt := 31) dX9_arc_23 (by decide) ?_
        refine xw_iconst (v := 0) dX9_arc_31 (by decide) ?_
        exact xw_zret rfl (by rfl) dX9_arc_32 (no (fun z => hnf z.2.1))
    · skip
      refine xw_astore (L2 := [(6, .ref (nad Γ j)), (5, .null), (0, .ref (aT A)), (1, .int f), (2, .int sd), (3, .int t), (4, .int pt)]) dX9_arc_12 (by decide) rfl ?_
      refine xw_aload_n dX9_arc_14 rfl rfl ?_
      refine xw_get (ci := 10) (k := 12) (v := .int (nI (sB σ))) dX9_arc_15 hH rfl inX9 (by decide) tw_192 (Or.inl rfl) rfl ?_
      refine xw_if_ne (tgt := 31) dX9_arc_18 (by decide) (fun d1 => ?_) (fun d1 => ?_)
      · skip
        refine xw_iconst (v := 0) dX9_arc_31 (by decide) ?_
        refine xw_pc (pc2 := 32) rfl ?_
        exact xw_zret rfl (by rfl) dX9_arc_32 (no (fun z => hnf z.2.1))
      · skip
        refine xw_aloadN dX9_arc_21 rfl ?_
        refine xw_ifnullN (tgt := 31) dX9_arc_23 (by decide) ?_
        refine xw_iconst (v := 0) dX9_arc_31 (by decide) ?_
        exact xw_zret rfl (by rfl) dX9_arc_32 (no (fun z => hnf z.2.1))
  · skip
    refine xw_astore (L2 := [(5, .ref (nad Γ i)), (0, .ref (aT A)), (1, .int f), (2, .int sd), (3, .int t), (4, .int pt)]) dX9_arc_5 (by decide) rfl ?_
    refine xw_aload_n dX9_arc_7 rfl rfl ?_
    refine xw_iload_n dX9_arc_8 rfl rfl ?_
    refine xw_callV (q2 := mX9_nodeAt) (n2 := 1) (ci := 10) (Bs := [.int t]) (rest := []) (ct_nodeAt h (by omega)) dX9_arc_9 rfl (o_at h.1) rfl rfl tw_224 tw_226 tw_0 tw_39 tw_227 (by decide +kernel) rfl (Nat.le_of_ble_eq_true rfl) (Nat.le_of_ble_eq_true rfl) (Nat.le_of_ble_eq_true rfl) (fun rr M1 hr hle1 => ?_)
    obtain ⟨hM1, hqt⟩ := hr
    obtain rfl := hM1.symm
    rcases hqt with ⟨rfl, hnt⟩ | ⟨j, hj, htj, rfl⟩
    · skip
      refine xw_astoreN (L2 := [(6, .null), (5, .ref (nad Γ i)), (0, .ref (aT A)), (1, .int f), (2, .int sd), (3, .int t), (4, .int pt)]) dX9_arc_12 (by decide) rfl ?_
      refine xw_aload_n dX9_arc_14 rfl rfl ?_
      refine xw_get (ci := 10) (k := 12) (v := .int (nI (sB σ))) dX9_arc_15 hH rfl inX9 (by decide) tw_192 (Or.inl rfl) rfl ?_
      refine xw_if_ne (tgt := 31) dX9_arc_18 (by decide) (fun d1 => ?_) (fun d1 => ?_)
      · skip
        refine xw_iconst (v := 0) dX9_arc_31 (by decide) ?_
        exact xw_zret rfl (by rfl) dX9_arc_32 (no (fun z => hnt z.2.2.1))
      · skip
        refine xw_aload dX9_arc_21 rfl ?_
        refine xw_ifnull dX9_arc_23 ?_
        refine xw_aloadN dX9_arc_26 rfl ?_
        refine xw_ifnonnullN dX9_arc_28 ?_
        refine xw_iconst (v := 0) dX9_arc_31 (by decide) ?_
        exact xw_zret rfl (by rfl) dX9_arc_32 (no (fun z => hnt z.2.2.1))
    · have hfc : f.toNatClampNeg = i := by rw [hfi, nI_clamp (by omega)]
      have htc : t.toNatClampNeg = j := by rw [htj, nI_clamp (by omega)]
      have hfok : inN σ f := by rw [hfi]; exact ⟨nI_pos (by omega), nI_lt hi (by omega)⟩
      have htok : inN σ t := by rw [htj]; exact ⟨nI_pos (by omega), nI_lt hj (by omega)⟩
      have hni := h.2.1.node hi
      have hnj := h.2.1.node hj
      have hp3 := pts_b σ j
      refine xw_astore (L2 := [(6, .ref (nad Γ j)), (5, .ref (nad Γ i)), (0, .ref (aT A)), (1, .int f), (2, .int sd), (3, .int t), (4, .int pt)]) dX9_arc_12 (by decide) rfl ?_
      refine xw_aload_n dX9_arc_14 rfl rfl ?_
      refine xw_get (ci := 10) (k := 12) (v := .int (nI (sB σ))) dX9_arc_15 hH rfl inX9 (by decide) tw_192 (Or.inl rfl) rfl ?_
      refine xw_pc (pc2 := 18) rfl ?_
      refine xw_if_ne (tgt := 31) dX9_arc_18 (by decide) (fun d1 => ?_) (fun d1 => ?_)
      · have t0 : ¬ sB σ = 0 := fun zz => d1 (by rw [zz]; rfl)
        refine xw_iconst (v := 0) dX9_arc_31 (by decide) ?_
        exact xw_zret rfl (by rfl) dX9_arc_32 (no (fun z => t0 z.1))
      · have t0 : sB σ = 0 := (nI_eq (by omega) (by decide)).mp (show nI (sB σ) = nI 0 from d1)
        refine xw_aload dX9_arc_21 rfl ?_
        refine xw_ifnull dX9_arc_23 ?_
        refine xw_aload dX9_arc_26 rfl ?_
        refine xw_ifnonnull (tgt := 33) dX9_arc_28 (by decide) ?_
        refine xw_aload dX9_arc_33 rfl ?_
        refine xw_iload_n dX9_arc_35 rfl rfl ?_
        refine xw_callV (q2 := mX6_hasSide) (n2 := 1) (ci := 7) (Bs := [.int sd]) (rest := []) (ct_hasSide hni) dX9_arc_36 rfl (o_at hni) rfl rfl tw_247 tw_248 tw_249 tw_53 tw_250 (by decide +kernel) rfl (Nat.le_of_ble_eq_true rfl) (Nat.le_of_ble_eq_true rfl) (Nat.le_of_ble_eq_true rfl) (fun rr M1 hr hle1 => ?_)
        obtain ⟨rfl, hM1⟩ := hr
        obtain rfl := hM1.symm
        by_cases hsd : sd = 0 ∨ (sd = 1 ∧ nI (nd σ i).1 = 7)
        · have hsd' : sd = 0 ∨ (sd = 1 ∧ (nd σ f.toNatClampNeg).1 = 7) := hsd.imp id (fun z => ⟨z.1, by rw [hfc]; exact (nI_eq (by have := o18 i hi; omega) (by decide)).mp (show nI (nd σ i).1 = nI 7 from z.2)⟩)
          rw [if_pos hsd]
          refine xw_if_eq (tgt := 52) dX9_arc_39 (by decide) (fun zz => absurd zz (by decide)) (fun _ => ?_)
          refine xw_aload dX9_arc_42 rfl ?_
          refine xw_iload dX9_arc_44 rfl ?_
          refine xw_callV (q2 := mX6_hasPort) (n2 := 1) (ci := 7) (Bs := [.int pt]) (rest := []) (ct_hasPort hnj) dX9_arc_46 rfl (o_at hnj) rfl rfl tw_251 tw_252 tw_253 tw_53 tw_254 (by decide +kernel) rfl (Nat.le_of_ble_eq_true rfl) (Nat.le_of_ble_eq_true rfl) (Nat.le_of_ble_eq_true rfl) (fun rr M1 hr hle1 => ?_)
          obtain ⟨rfl, hM1⟩ := hr
          obtain rfl := hM1.symm
          by_cases hpt : ¬ pt < 0 ∧ ¬ nI (pts σ j) ≤ pt
          · obtain ⟨pp, hpp, hpe, -⟩ := pk_mu hpt.1 hpt.2 (show pts σ j < 2 ^ 31 by omega)
            have hpc : pt.toNatClampNeg = pp := by rw [hpe, nI_clamp (by omega)]
            obtain ⟨ss, hss, hse⟩ : ∃ ss, ss ≤ 1 ∧ sd = nI ss := by
              rcases hsd with z | z
              · exact ⟨0, by decide, z⟩
              · exact ⟨1, by decide, z.1⟩
            have hsc : sd.toNatClampNeg = ss := by rw [hse, nI_clamp (by omega)]
            rw [if_pos hpt]
            refine xw_if_ne (tgt := 54) dX9_arc_49 (by decide) (fun _ => ?_) (fun zz => absurd zz (by decide))
            refine xw_aload dX9_arc_54 rfl ?_
            refine xw_iload_n dX9_arc_56 rfl rfl ?_
            refine xw_aload dX9_arc_57 rfl ?_
            refine xw_iload dX9_arc_59 rfl ?_
            rw [hse, hpe]
            refine xw_callV (q2 := mX6_addArc) (n2 := 3) (ci := 7) (Bs := [.int (nI ss), .ref (nad Γ j), .int (nI pp)]) (rest := []) (ct_addArc h hb hi hss hj hpp) dX9_arc_61 rfl (o_at hni) rfl rfl tw_255 tw_256 tw_257 tw_53 tw_258 (by decide +kernel) rfl (Nat.le_of_ble_eq_true rfl) (Nat.le_of_ble_eq_true rfl) (Nat.le_of_ble_eq_true rfl) (fun rr M1 hr hle1 => ?_)
            rw [← hse, ← hpe]
            rcases hr with ⟨t6, rfl, hR1, hX1⟩ | ⟨t6, rfl, hM1⟩
            · have hC : arcC σ f sd t pt := ⟨t0, hfok, htok, hsd', by rw [htc]; exact hpt, by rw [hfc]; exact t6⟩
              exact xw_zret rfl (by rfl) dX9_arc_64 ⟨by rw [if_pos hC], γ, by unfold arcS; rw [if_pos hC, hfc, hsc, htc, hpc]; exact hR1, hX1⟩
            · obtain rfl := hM1.symm
              exact xw_zret rfl (by rfl) dX9_arc_64 (no (fun z => t6 (by have := z.2.2.2.2.2; rw [hfc] at this; exact this)))
          · rw [if_neg hpt]
            refine xw_if_ne (tgt := 54) dX9_arc_49 (by decide) (fun zz => absurd (by decide) zz) (fun _ => ?_)
            refine xw_iconst (v := 0) dX9_arc_52 (by decide) ?_
            exact xw_zret rfl (by rfl) dX9_arc_53 (no (fun z => hpt (by have := z.2.2.2.2.1; rw [htc] at this; exact this)))
        · rw [if_neg hsd]
          refine xw_if_eq (tgt := 52) dX9_arc_39 (by decide) (fun _ => ?_) (fun zz => absurd (by decide) zz)
          refine xw_iconst (v := 0) dX9_arc_52 (by decide) ?_
          refine xw_pc (pc2 := 53) rfl ?_
          exact xw_zret rfl (by rfl) dX9_arc_53 (no (fun z => hsd (z.2.2.2.1.imp id (fun w => ⟨w.1, by have := w.2; rw [hfc] at this; rw [this]; rfl⟩))))
end ARC
