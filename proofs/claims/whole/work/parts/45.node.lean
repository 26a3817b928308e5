/-! THE CLASS: node -/
/-- a new node's cells -/
def nnd (M : hx_S) (k o n p x y : Int32) : hx_S := oput (nq (nq (oput (grow M 8 7) 7 (Sz M) (some [.int 0, .int 0, .int 0, .int 0, .int 0, .int 0, .null, .null])))) 7 (Sz M) (some [.int k, .int o, .int n, .int p, .int x, .int y, .ref (Sz M + 1), .ref (Sz M + 2)])
def ngr (Γ : hG) (n a : Nat) : hG := fun q i => if i = n then a + q else Γ q i
def newn (γ : hf_S) (n a : Nat) : hf_S := wG (wro γ (fun x => if x = a + 1 then (5, n) else if x = a + 2 then (6, n) else gro γ x)) (fun r => if r = (6, n) then [] else gG γ r)
def addN (σ : hs_S) (o : Nat) (nn : Int32) : hs_S := uN σ (sN σ ++ [(o, nn, [])])
section NODE
variable {G : hx_G} {M M1 : hx_S} {A : hA} {Γ : hG} {σ : hs_S} {γ : hf_S} {b o : Nat} {nn : Int32}
section NND
variable {k o n p x y : Int32}
theorem Sz_nnd : Sz (nnd M k o n p x y) = Sz M + 3 := rfl
theorem So_nnd (c a : Nat) : So (nnd M k o n p x y) c a = if c = 7 ∧ a = Sz M then some [.int k, .int o, .int n, .int p, .int x, .int y, .ref (Sz M + 1), .ref (Sz M + 2)] else So M c a := by
  unfold nnd
  rw [So_oput, So_nq, So_nq, So_oput, So_grow]
  split
  · rfl
  · rfl
theorem Sq_nnd (a : Nat) : Sq (nnd M k o n p x y) a = if a = Sz M + 2 then some ([], 0, 0, 0) else if a = Sz M + 1 then some ([], 0, 0, 0) else Sq M a := rfl
theorem ext_nnd (hw : Wf M) : Ext M (nnd M k o n p x y) no2 no1 no1 no1 :=
  ⟨fun c a v h _ => by rw [So_nnd, if_neg (fun z => by rw [z.1, z.2, hw.nso (Nat.le_refl _)] at h; cases h)]; exact h, fun a v h _ => by
    have ha := (hw.2.2.2.2 a v h).2.1
    rw [Sq_nnd, if_neg (by omega), if_neg (by omega)]; exact h, fun _ _ _ h _ => h, fun _ _ h _ => h, fun _ _ h => h, by rw [Sz_nnd]; omega⟩
end NND
theorem wf_nq (h : Wf M) : Wf (nq M) := by
  obtain ⟨a1, a2, a3, a4, a5⟩ := Wf.grown (n := 3) (k := 50) h
  refine ⟨a1, a2, a3, a4, fun b x hx => ?_⟩
  rw [Sq_nq] at hx
  split at hx
  · next e => cases hx; exact ⟨by rw [e]; show Sk (grow M 3 50) (Sz M) = 50; rw [Sk_grow, if_pos rfl], by rw [e]; show Sz M < Sz M + 1; omega, Nat.le_refl _, fun z => absurd z (by decide)⟩
  · exact a5 b x hx
theorem tabP_p : ∀ o, o < 18 → tabP.getD o 0 = nI (prt o) := by decide +kernel
theorem ks_N : ∀ s : State, KS G s → va_Nw (.castable RX6 "java/lang/Object") s := fun s h => h.2.2.2.1.2.2.1
theorem nd_new {j : Nat} (hj : j < (sN σ).length) : nd (addN σ o nn) j = nd σ j := by
  unfold nd
  show (((sN σ) ++ [(o, nn, [])])[j]?).getD _ = _
  rw [List.getElem?_append_left hj]
theorem newn_G {n a : Nat} {r : Nat × Nat} (h : r ≠ (6, n)) : gG (newn γ n a) r = gG γ r := if_neg h
theorem len_new : (sN (addN σ o nn)).length = (sN σ).length + 1 := by
  show (sN σ ++ [(o, nn, [])]).length = _
  rw [List.length_append]; rfl
theorem GS.noT (h : GS σ) {i : Nat} (hi : (sN σ).length ≤ i) (c : Nat) : sT σ i c = no3 := by
  funext p
  cases e : sT σ i c p with
  | none => rfl
  | some v => have := ((h.2.2.2.2.1 i c).2 ⟨p, by rw [e]; exact fun z => by cases z⟩).1; omega
theorem GS.addn (h : GS σ) (ho : o < 18) (hl : (sN σ).length < 40) : GS (addN σ o nn) := by
  have h0 := h
  obtain ⟨k1, k2, k3, k4, k5, k6, k7, k8, k9, k10⟩ := h
  have pn : ∀ j, j < (sN σ).length → pts (addN σ o nn) j = pts σ j := fun j hj => by unfold pts; rw [nd_new hj]
  refine ⟨by rw [len_new]; omega, fun i x hx => ?_, k3, k4, fun i c => ⟨?_, fun z => ?_⟩, fun x hx => ?_, fun x hx => ?_, k8, k9, k10⟩
  · have hx' : (sN σ ++ [(o, nn, [])])[i]? = some x := hx
    by_cases hi : i < (sN σ).length
    · rw [List.getElem?_append_left hi] at hx'
      obtain ⟨a1, a2, a3⟩ := k2 i x hx'
      exact ⟨a1, a2, fun e he => ⟨(a3 e he).1, by rw [len_new]; have := (a3 e he).2.1; omega, by rw [pn _ (a3 e he).2.1]; exact (a3 e he).2.2⟩⟩
    · rw [List.getElem?_append_right (by omega)] at hx'
      have q1 := (List.getElem?_eq_some_iff.mp hx').1
      rw [List.length_singleton] at q1
      rw [show i - (sN σ).length = 0 by omega] at hx'
      cases hx'
      exact ⟨ho, by show (0 : Nat) ≤ 6; omega, fun e he => by cases he⟩
  · show GT (sA σ) (pts (addN σ o nn) i) (sT σ i c)
    by_cases hi : i < (sN σ).length
    · rw [pn i hi]; exact (k5 i c).1
    · rw [h0.noT (by omega)]; exact GT.no
  · have := (k5 i c).2 z
    rw [len_new]
    exact ⟨by omega, this.2⟩
  · obtain ⟨a1, a2, a3, a4⟩ := k6 x hx
    rw [len_new, pn _ a1]
    exact ⟨by omega, a2, a3, a4⟩
  · obtain ⟨a1, a2, a3⟩ := k7 x hx
    rw [len_new]
    exact ⟨by omega, a2, a3⟩
theorem RepB.addn {q : List Nat × Nat × Nat × Int32} (h : RepB M A Γ σ γ b) (hG : GS σ) (hw : Wf M) (hq : Sq M (aN A) = some q) : RepB (addq (nnd M (nI (sN σ).length) (nI o) nn (nI (prt o)) (tabX.getD o 0) (tabY.getD o 0)) (aN A) q (Sz M)) A (ngr Γ (sN σ).length (Sz M)) (addN σ o nn) (newn γ (sN σ).length (Sz M)) (b + 236) := by
  have h0 := h
  obtain ⟨n, hn⟩ : ∃ n, n = (sN σ).length := ⟨_, rfl⟩
  have hR := h.rero hw (ro := fun x => if x = Sz M + 1 then (5, n) else if x = Sz M + 2 then (6, n) else gro γ x) (fun x hx => by rw [if_neg (by omega), if_neg (by omega)])
  obtain ⟨⟨g1, g2, g3⟩, ⟨⟨f1, f2⟩, f3, f4, f5, f6⟩, ⟨p1, p2, p3, p4, p5, p6, p7⟩, k4, k5, k6, k7⟩ := hR
  have hΓ : ∀ q i, i < n → ngr Γ n (Sz M) q i = Γ q i := fun q i hi => if_neg (by omega)
  have hΓn : ∀ q, ngr Γ n (Sz M) q n = Sz M + q := fun q => if_pos rfl
  have haN : aN A < Sz M := (hw.2.2.2.2 _ _ hq).2.1
  have hAE : aE A < Sz M := by obtain ⟨cap, y, -, -, q, -⟩ := k7; exact (hw.2.2.2.2 _ _ q).2.1
  have e1 : Ext M (nnd M (nI n) (nI o) nn (nI (prt o)) (tabX.getD o 0) (tabY.getD o 0)) no2 no1 no1 no1 := ext_nnd hw
  have e2 : Ext (nnd M (nI n) (nI o) nn (nI (prt o)) (tabX.getD o 0) (tabY.getD o 0)) (addq (nnd M (nI n) (nI o) nn (nI (prt o)) (tabX.getD o 0) (tabY.getD o 0)) (aN A) q (Sz M)) no2 (fun x => x = aN A) no1 no1 := ext_addq
  have e : Ext M (addq (nnd M (nI n) (nI o) nn (nI (prt o)) (tabX.getD o 0) (tabY.getD o 0)) (aN A) q (Sz M)) no2 (fun x => x = aN A) no1 no1 := (e1.mono (fun _ _ => id) (fun _ => False.elim) (fun _ => id) (fun _ => id)).tr e2
  have hq1 : q.1 = (List.range n).map (nad Γ) := by
    obtain ⟨y, hy⟩ := g1
    rw [hq] at hy
    have := Option.some.inj hy
    rw [this, hn]
  have hap : AP (addq (nnd M (nI n) (nI o) nn (nI (prt o)) (tabX.getD o 0) (tabY.getD o 0)) (aN A) q (Sz M)) A (gG γ (2, 0)) (gMD γ).length (sK σ).length (b + 236) := by
    have w1 : Wf (oput (grow M 8 7) 7 (Sz M) (some [.int 0, .int 0, .int 0, .int 0, .int 0, .int 0, .null, .null])) := Wf.newo hw (by decide)
    have q1 := AP.one (M1 := oput (grow M 8 7) 7 (Sz M) (some [.int 0, .int 0, .int 0, .int 0, .int 0, .int 0, .null, .null])) (s := 8) h0.2.2.2.2.2.2 hw rfl rfl (fun _ => rfl)
    have q2 := q1.nq w1 (by show aE A < Sz M + 1; omega)
    have q3 := q2.nq (wf_nq w1) (by show aE A < Sz M + 1 + 1; omega)
    have q4 := q3.same (M1 := nnd M (nI n) (nI o) nn (nI (prt o)) (tabX.getD o 0) (tabY.getD o 0)) rfl rfl (fun _ => rfl)
    have hne : aN A ≠ aE A := fun z => by
      have z1 := (h0.2.1.2.1 (2, 0) act_2).2
      rw [ad_2, ← z, h0.1.2.1] at z1
      exact absurd (show (0 : Nat) = 2 from congrArg Prod.fst z1) (by decide)
    exact (q4.add (a := aN A) (v := Sz M) (x := q) (Wf.oset (wf_nq (wf_nq w1)) (show So _ 7 (Sz M) = _ by rw [So_nq, So_nq, So_oput, if_pos ⟨rfl, rfl⟩])) (e1.2.1 _ _ hq id) hne).mono (by omega)
  rw [← hn] at f3 p2 p4 ⊢
  have had : ∀ r, r ≠ (6, n) → act (n + 1) (newn γ n (Sz M)) r → act n γ r ∧ ad A (ngr Γ n (Sz M)) (newn γ n (Sz M)) r = ad A Γ γ r ∧ gG (newn γ n (Sz M)) r = gG γ r := by
    intro r hr ha
    have hGr : gG (newn γ n (Sz M)) r = gG γ r := if_neg hr
    rcases ha with z | z | ⟨z, z2⟩ | ⟨z, a, hz⟩
    · exact ⟨Or.inl z, by rw [z]; rfl, hGr⟩
    · exact ⟨Or.inr (Or.inl z), by rw [z]; rfl, hGr⟩
    · have hrn : r.2 ≠ n := fun q => hr (Prod.ext z q)
      exact ⟨Or.inr (Or.inr (Or.inl ⟨z, by omega⟩)), by rw [ad_r6 z, ad_r6 z]; exact hΓ 2 r.2 (by omega), hGr⟩
    · exact ⟨Or.inr (Or.inr (Or.inr ⟨z, a, hz⟩)), (ad_r7 z).trans (ad_r7 z).symm, hGr⟩
  have hln : (sN (addN σ o nn)).length = n + 1 := by rw [len_new, hn]
  refine ⟨⟨?_, g2, fun i x hx => ?_⟩, ⟨⟨e.lq f1 (fun z => ?_), f2⟩, fun r hr => ?_, fun g hg => (f4 g hg).ext e (fun _ => id) id (fun _ => False.elim), e.so f5 id, e.so f6 id⟩, ⟨p1, fun r hr => ?_, p3, fun i hi => ?_, ?_, fun d hd => ?_, p7⟩, k4.ext e (fun _ => id) ⟨id, id, id⟩, (k5.ext e (fun _ => id) (fun _ => id) (fun _ => id) (fun _ => False.elim) (fun _ => False.elim)).cg rfl rfl rfl rfl rfl rfl, (k6.ext e (fun _ => id) (fun _ => id) (fun x hx => ?_)).cg rfl rfl, hap⟩
  · rw [hln, List.range_succ, List.map_append]
    rw [show (List.range n).map (nad (ngr Γ n (Sz M))) = q.1 by rw [hq1]; exact List.map_congr_left (fun i hi => hΓ 0 i (List.mem_range.mp hi))]
    rw [show [n].map (nad (ngr Γ n (Sz M))) = [Sz M] by show [ngr Γ n (Sz M) 0 n] = _; rw [hΓn]; rfl]
    exact lq_addq
  · have hx' : (sN σ ++ [(o, nn, [])])[i]? = some x := hx
    by_cases hi : i < n
    · rw [List.getElem?_append_left (by omega)] at hx'
      obtain ⟨m1, m2, ys, m3, m4, m5⟩ := g3 i x hx'
      have a3 := (hG.2.1 i x hx').2.2
      refine ⟨?_, ?_, ys, ?_, m4, fun k a w hk hw' => ?_⟩
      · show So _ 7 (ngr Γ n (Sz M) 0 i) = some [.int (nI i), .int (nI x.1), .int x.2.1, .int (nI (prt x.1)), .int (tabX.getD x.1 0), .int (tabY.getD x.1 0), .ref (ngr Γ n (Sz M) 1 i), .ref (ngr Γ n (Sz M) 2 i)]
        rw [hΓ 0 i hi, hΓ 1 i hi, hΓ 2 i hi]
        exact e.so m1 id
      · show gro _ (ngr Γ n (Sz M) 1 i) = (5, i)
        rw [hΓ 1 i hi]; exact m2
      · show LQ _ (ngr Γ n (Sz M) 1 i) ys
        rw [hΓ 1 i hi]
        refine e.lq m3 (fun z => ?_)
        rw [show nar Γ i = aN A from z, g2] at m2
        exact absurd (show (0 : Nat) = 5 from congrArg Prod.fst m2) (by decide)
      · show So _ 1 a = some [.int (nI w.1), .ref (ngr Γ n (Sz M) 0 w.2.1), .int (nI w.2.2)]
        rw [hΓ 0 _ (by have := (a3 w (List.mem_of_getElem? hw')).2.1; omega)]
        exact e.so (m5 k a w hk hw') id
    · rw [List.getElem?_append_right (by omega)] at hx'
      have q1 := (List.getElem?_eq_some_iff.mp hx').1
      rw [List.length_singleton] at q1
      obtain rfl : i = n := by omega
      rw [show i - (sN σ).length = 0 by omega] at hx'
      cases hx'
      refine ⟨?_, ?_, [], ?_, rfl, fun k a w hk => by cases hk⟩
      · show So _ 7 (ngr Γ i (Sz M) 0 i) = some [.int (nI i), .int (nI o), .int nn, .int (nI (prt o)), .int (tabX.getD o 0), .int (tabY.getD o 0), .ref (ngr Γ i (Sz M) 1 i), .ref (ngr Γ i (Sz M) 2 i)]
        rw [hΓn 0, hΓn 1, hΓn 2, So_addq, So_nnd, if_pos ⟨rfl, rfl⟩]
      · show (if ngr Γ i (Sz M) 1 i = Sz M + 1 then (5, i) else _) = (5, i)
        rw [hΓn 1, if_pos rfl]
      · show LQ _ (ngr Γ i (Sz M) 1 i) []
        rw [hΓn 1]
        exact ⟨(0, 0, 0), by rw [Sq_addq, if_neg (by omega), Sq_nnd, if_neg (by omega), if_pos rfl]⟩
  · rw [show aM A = aN A from z, g2] at f2
    exact absurd (show (0 : Nat) = 1 from congrArg Prod.fst f2) (by decide)
  · rw [hln] at hr
    by_cases hrn : r = (6, n)
    · subst hrn
      have ha : ad A (ngr Γ n (Sz M)) (newn γ n (Sz M)) (6, n) = Sz M + 2 := hΓn 2
      rw [ha, show gG (newn γ n (Sz M)) (6, n) = [] from if_pos rfl]
      refine ⟨⟨(0, 0, 0), by rw [Sq_addq, if_neg (by omega), Sq_nnd, if_pos rfl]⟩, ?_⟩
      show (if Sz M + 2 = Sz M + 1 then (5, n) else if Sz M + 2 = Sz M + 2 then (6, n) else gro γ (Sz M + 2)) = (6, n)
      rw [if_neg (by omega), if_pos rfl]
    · obtain ⟨q1, q2, q3⟩ := had r hrn hr
      obtain ⟨m1, m2⟩ := f3 r q1
      rw [q2, q3]
      refine ⟨e.lq m1 (fun z => ?_), m2⟩
      have m3 := (congrArg (gro (wro γ (fun x => if x = Sz M + 1 then (5, n) else if x = Sz M + 2 then (6, n) else gro γ x))) (show aN A = ad A Γ γ r from z.symm)).trans m2
      rw [g2] at m3
      have := act_n0 q1
      rw [← m3] at this
      revert this; decide
  · rw [hln] at hr
    by_cases hrn : r = (6, n)
    · rw [hrn, show gG (newn γ n (Sz M)) (6, n) = [] from if_pos rfl]
      exact ⟨List.nodup_nil, fun f hf => by cases hf⟩
    · obtain ⟨q1, q2, q3⟩ := had r hrn hr
      rw [q3]
      exact p2 r q1
  · rw [hln] at hi
    by_cases hin : i < n
    · rw [show gG (newn γ n (Sz M)) (6, i) = gG γ (6, i) from if_neg (fun z => by have := (Prod.mk.inj z).2; omega)]
      obtain ⟨a1, a2, a3⟩ := p4 i hin
      refine ⟨fun f hf => ⟨?_, (a1 f hf).2⟩, a2, a3⟩
      show gna γ f = ngr Γ n (Sz M) 0 i
      rw [hΓ 0 i hin]; exact (a1 f hf).1
    · obtain rfl : i = n := by omega
      rw [show gG (newn γ i (Sz M)) (6, i) = [] from if_pos rfl]
      exact ⟨(fun f hf => by cases hf), (fun f g hf => by cases hf), fun c _ => Or.inr (hG.noT (by omega) c)⟩
  · show (sR σ).map (fun x => (ngr Γ n (Sz M) 0 x.1, nI x.2.1, x.2.2)) = _
    rw [List.map_congr_left (g := fun x => (Γ 0 x.1, nI x.2.1, x.2.2)) (fun x hx => by rw [hΓ 0 _ (by have := (hG.2.2.2.2.2.1 x hx).1; omega)])]
    rw [show gG (newn γ n (Sz M)) (3, 0) = gG γ (3, 0) from newn_G (fun z => absurd (show (3 : Nat) = 6 from congrArg Prod.fst z) (by decide))]
    exact p5
  · show (kf σ d).map (fun x => (ngr Γ n (Sz M) 0 x.1, nI x.2.1, no3)) = _
    rw [List.map_congr_left (g := fun x => (Γ 0 x.1, nI x.2.1, no3)) (fun x hx => by rw [hΓ 0 _ (by have := (hG.2.2.2.2.2.2.1 x (List.mem_filter.mp hx).1).1; omega)])]
    rw [show gG (newn γ n (Sz M)) (7, d) = gG γ (7, d) from newn_G (fun z => absurd (show (7 : Nat) = 6 from congrArg Prod.fst z) (by decide))]
    exact p6 d hd
  · rw [show x = aN A from hx, g2]; show (0 : Nat) ≠ 4; decide
theorem ct_node (h : Rep M A Γ σ γ b) (hb : b + 300 ≤ 14400000) (ho : o < 18) (hl : (sN σ).length < 40) (hB : sB σ = 0) : CT G 7 157 mX9_node [.ref (aT A), .int (nI o), .int nn] M (fun r M1 => r = some (.int (nI (sN σ).length)) ∧ ∃ Γ1 γ1, Rep M1 A Γ1 (addN σ o nn) γ1 (b + 300) ∧ XE A M M1) := by
  refine ct_wf fun hw => ?_
  refine ct_go (by decide +kernel) (Nat.le_of_ble_eq_true rfl) (L := [(0, .ref (aT A)), (1, .int (nI o)), (2, .int nn)]) rfl ?_
  have hH := h.hdr
  obtain ⟨⟨y, hy⟩, hy2, hy3⟩ := h.2.1.1
  have hlen : ((List.range (sN σ).length).map (nad Γ)).length = (sN σ).length := by simp
  refine xw_iload_n dX9_node_0 rfl rfl ?_
  refine xw_if_lt (tgt := 12) dX9_node_1 (by decide) (fun zz => absurd zz (nI_pos (by omega))) (fun _ => ?_)
  refine xw_iload_n dX9_node_4 rfl rfl ?_
  refine xw_gets (t := gP G) tw_476 dX9_node_5 (fun s hks => ks_P hks) ?_
  refine xw_tlen dX9_node_8 (fun s hks => ks_P hks) ?_
  refine xw_icmp_lt (tgt := 22) dX9_node_9 (by decide) (fun _ => ?_) (fun zz => absurd (show nI o < nI 18 from nI_lt ho (by decide)) zz)
  refine xw_aload_n dX9_node_22 rfl rfl ?_
  refine xw_get (ci := 10) (k := 1) (v := .ref (aN A)) dX9_node_23 hH rfl inX9 (by decide) tw_181 (Or.inl rfl) rfl ?_
  refine xw_callV (q2 := mJx4a65c_size_8abf5) (n2 := 0) (ci := 0) (Bs := []) (rest := []) (ct_size hy) dX9_node_26 rfl (q_at hy) rfl rfl tw_228 tw_229 tw_230 tw_43 tw_231 (by decide +kernel) rfl (Nat.le_of_ble_eq_true rfl) (Nat.le_of_ble_eq_true rfl) (Nat.le_of_ble_eq_true rfl) (fun rr M1 hr hle1 => ?_)
  obtain ⟨rfl, hM1⟩ := hr
  obtain rfl := hM1.symm
  rw [show nI ((List.range (sN σ).length).map (nad Γ), y).1.length = nI (sN σ).length from congrArg nI hlen]
  refine xw_bipush (v := 40) dX9_node_29 (by decide) ?_
  refine xw_icmp_ge (tgt := 41) dX9_node_31 (by decide) (fun zz => absurd zz (show ¬ nI 40 ≤ nI (sN σ).length from nI_ge hl (by decide))) (fun _ => ?_)
  refine xw_aload_n dX9_node_34 rfl rfl ?_
  refine xw_get (ci := 10) (k := 12) (v := .int (nI (sB σ))) dX9_node_35 hH rfl inX9 (by decide) tw_192 (Or.inl rfl) rfl ?_
  refine xw_if_eq (tgt := 51) dX9_node_38 (by decide) (fun _ => ?_) (fun zz => absurd (show nI (sB σ) = 0 by rw [hB]; rfl) zz)
  refine xw_aload_n dX9_node_51 rfl rfl ?_
  refine xw_get (ci := 10) (k := 1) (v := .ref (aN A)) dX9_node_52 hH rfl inX9 (by decide) tw_181 (Or.inl rfl) rfl ?_
  refine xw_callV (q2 := mJx4a65c_size_8abf5) (n2 := 0) (ci := 0) (Bs := []) (rest := []) (ct_size hy) dX9_node_55 rfl (q_at hy) rfl rfl tw_228 tw_229 tw_230 tw_43 tw_231 (by decide +kernel) rfl (Nat.le_of_ble_eq_true rfl) (Nat.le_of_ble_eq_true rfl) (Nat.le_of_ble_eq_true rfl) (fun rr M1 hr hle1 => ?_)
  obtain ⟨rfl, hM1⟩ := hr
  obtain rfl := hM1.symm
  rw [show nI ((List.range (sN σ).length).map (nad Γ), y).1.length = nI (sN σ).length from congrArg nI hlen]
  refine xw_istore_n (L2 := [(3, .int (nI (sN σ).length)), (0, .ref (aT A)), (1, .int (nI o)), (2, .int nn)]) dX9_node_58 rfl (by decide) rfl ?_
  refine xw_aload_n dX9_node_59 rfl rfl ?_
  refine xw_get (ci := 10) (k := 1) (v := .ref (aN A)) dX9_node_60 hH rfl inX9 (by decide) tw_181 (Or.inl rfl) rfl ?_
  refine xw_new (ci := 7) (fs := [.int 0, .int 0, .int 0, .int 0, .int 0, .int 0, .null, .null]) tyX6 dX9_node_63 rfl inX6 tyX6_ok (by decide) tw_246 tw_562 tw_53 (fun j hj => by rcases (show j = 0 ∨ j = 1 ∨ j = 2 ∨ j = 3 ∨ j = 4 ∨ j = 5 ∨ j = 6 ∨ j = 7 by omega) with rfl | rfl | rfl | rfl | rfl | rfl | rfl | rfl <;> rfl) ?_
  refine xw_dup dX9_node_66 rfl ?_
  refine xw_iload_n dX9_node_67 rfl rfl ?_
  refine xw_iload_n dX9_node_68 rfl rfl ?_
  refine xw_iload_n dX9_node_69 rfl rfl ?_
  refine xw_pc (pc2 := 70) rfl ?_
  refine xw_gets (t := gP G) tw_476 dX9_node_70 (fun s hks => ks_P hks) ?_
  refine xw_iload_n dX9_node_73 rfl rfl ?_
  refine xw_tald (v := (tabP.getD (nI o).toNatClampNeg 0)) dX9_node_74 (fun s hks => ks_P hks) (vp_in_nI ho (by decide)) rfl ?_
  refine xw_gets (t := gX G) tw_563 dX9_node_75 (fun s hks => ks_X hks) ?_
  refine xw_iload_n dX9_node_78 rfl rfl ?_
  refine xw_tald (v := (tabX.getD (nI o).toNatClampNeg 0)) dX9_node_79 (fun s hks => ks_X hks) (vp_in_nI ho (by decide)) rfl ?_
  refine xw_gets (t := gY G) tw_565 dX9_node_80 (fun s hks => ks_Y hks) ?_
  refine xw_iload_n dX9_node_83 rfl rfl ?_
  refine xw_tald (v := (tabY.getD (nI o).toNatClampNeg 0)) dX9_node_84 (fun s hks => ks_Y hks) (vp_in_nI ho (by decide)) rfl ?_
  rw [nI_clamp (show o < 2 ^ 31 by omega), tabP_p o ho]
  refine xw_callI (q2 := mX6_init) (n2 := 6) (Bs := [.int (nI (sN σ).length), .int (nI o), .int nn, .int (nI (prt o)), .int (tabX.getD o 0), .int (tabY.getD o 0)]) (rest := [.ref (Sz M), .ref (aN A)]) (ct_Node (a := Sz M) (show So (oput (grow M 8 7) 7 (Sz M) _) 7 (Sz M) = some [.int 0, .int 0, .int 0, .int 0, .int 0, .int 0, .null, .null] by rw [So_oput, if_pos ⟨rfl, rfl⟩])) rfl dX9_node_85 rfl rfl tw_567 tw_568 tw_53 tw_569 (by decide +kernel) rfl (Nat.le_of_ble_eq_true rfl) (Nat.le_of_ble_eq_true rfl) (Nat.le_of_ble_eq_true rfl) (fun rr M1 hr hle1 => ?_)
  obtain ⟨rfl, hM1⟩ := hr
  obtain rfl : M1 = nnd M (nI (sN σ).length) (nI o) nn (nI (prt o)) (tabX.getD o 0) (tabY.getD o 0) := hM1
  have e1 : Ext M (nnd M (nI (sN σ).length) (nI o) nn (nI (prt o)) (tabX.getD o 0) (tabY.getD o 0)) no2 no1 no1 no1 := ext_nnd hw
  have hy4 := e1.2.1 _ _ hy id
  have hva : So (nnd M (nI (sN σ).length) (nI o) nn (nI (prt o)) (tabX.getD o 0) (tabY.getD o 0)) 7 (Sz M) = some [.int (nI (sN σ).length), .int (nI o), .int nn, .int (nI (prt o)), .int (tabX.getD o 0), .int (tabY.getD o 0), .ref (Sz M + 1), .ref (Sz M + 2)] := by rw [So_nnd, if_pos ⟨rfl, rfl⟩]
  have hels : ∀ g, g ∈ ((List.range (sN σ).length).map (nad Γ), y).1 → ∃ vs, So (nnd M (nI (sN σ).length) (nI o) nn (nI (prt o)) (tabX.getD o 0) (tabY.getD o 0)) 7 g = some vs := by
    intro g hg
    obtain ⟨i, hi, rfl⟩ := List.mem_map.mp hg
    exact ⟨_, e1.so (h.2.1.node (List.mem_range.mp hi)) id⟩
  have hcap := h.2.1.2.2.2.2.2.2.cap (by omega) hy
  refine xw_callV (q2 := mJx4a65c_add_9ea2d) (n2 := 1) (ci := 0) (Bs := [.ref (Sz M)]) (rest := []) (ct_add (ci := 7) hy4 hcap (by decide) hva rfl ks_N hels) dX9_node_88 rfl (q_at hy4) rfl rfl tw_409 tw_280 tw_281 tw_43 tw_282 (by decide +kernel) rfl (Nat.le_of_ble_eq_true rfl) (Nat.le_of_ble_eq_true rfl) (Nat.le_of_ble_eq_true rfl) (fun rr M1 hr hle1 => ?_)
  obtain ⟨rfl, rfl⟩ := hr
  refine xw_pop dX9_node_91 rfl ?_
  refine xw_iload_n dX9_node_92 rfl rfl ?_
  exact xw_iret rfl dX9_node_93 ⟨rfl, _, _, ⟨by rw [So_addq]; exact e1.so h.1 id, (h.2.1.addn h.2.2 hw hy).mono (by omega), h.2.2.addn ho hl⟩, Ext.tr (e1.mono (fun _ _ => False.elim) (fun _ => False.elim) (fun _ => False.elim) (fun _ => False.elim)) (ext_addq.mono (fun _ _ => False.elim) (fun _ _ => trivial) (fun _ => False.elim) (fun _ => False.elim))⟩
end NODE
