/-! ARRAYLIST, what changes it -/
section J2
variable {G : hx_G} {M Mw : hx_S} {H : Heap} {a : Nat} {x x2 : List Nat × Nat × Nat × Int32}
theorem wf_qset (h : Wf M) (hx : Sq M a = some x) (h1 : x2.1.length ≤ x2.2.1) (h2 : 0 < x2.2.1 → Sk M x2.2.2.1 = 100 + a ∧ x2.2.2.1 < Sz M) : Wf (qput M a (some x2)) := by
  obtain ⟨w2, w3, w4, w5, w6⟩ := h
  refine ⟨w2, w3, w4, w5, fun b y hb => ?_⟩
  rw [Sq_qput] at hb
  by_cases hc : b = a
  · subst hc
    rw [if_pos rfl] at hb
    cases hb
    exact ⟨(w6 b x hx).1, (w6 b x hx).2.1, h1, h2⟩
  · rw [if_neg hc] at hb
    exact w6 b y hb
theorem sh_qset (hw : Wf M) (hx : Sq M a = some x) (hz : Sz Mw = Sz M) (hso : ∀ c b, So Mw c b = if c = 0 ∧ b = a then some (qobj G x2) else So M c b) (hsi : ∀ b, Si Mw b = Si M b) (hsj : ∀ b, Sj Mw b = Sj M b) (hsr : ∀ c b y, Sr M c b = some y → Sr Mw c b = some y) (hsq : ∀ b, b ≠ a → Sq Mw b = Sq M b)
    (hdat : 0 < x2.2.1 → ∃ f, Sr Mw 2 x2.2.2.1 = some (x2.2.1, f) ∧ ∀ j, j < x2.2.1 → f j = x2.1[j]?) (hw2 : Wf (qput M a (some x2))) (h : Sh G Mw H) : Sh G (qput M a (some x2)) H := by
  have k1 := (hw.2.2.2.2 a x hx).1
  refine Sh.view h hw2 hz.symm (fun c b fs hb => Or.inl ?_) (fun b y hb => by rw [hsi]; exact hb) (fun b y hb => by rw [hsj]; exact hb) (fun c b y hb => Or.inl (hsr c b y hb)) (fun b y hb => ?_)
  · have hb' : So M c b = some fs := hb
    rw [hso, if_neg (fun z => ?_)]
    · exact hb'
    · have e1 := hw.1 c b fs hb'
      rw [z.2, k1] at e1
      omega
  · rw [Sq_qput] at hb
    by_cases hc : b = a
    · subst hc
      rw [if_pos rfl] at hb
      cases hb
      exact Or.inr ⟨by rw [hso, if_pos ⟨rfl, rfl⟩], hdat⟩
    · rw [if_neg hc] at hb
      exact Or.inl (by rw [hsq b hc]; exact hb)
/-! constructors -/
theorem ct_acinit : CT G 1 20 mJxa1e45_init_da8c8 [.ref a] M (fun r M1 => r = none ∧ M1 = M) := by
  refine ct_go (by decide +kernel) (Nat.le_of_ble_eq_true rfl) (L := [(0, .ref a)]) rfl ?_
  refine xw_aload_n dJxa1e45_init_da8c8_0 rfl rfl ?_
  refine xw_obj dJxa1e45_init_da8c8_1 tw_101 tw_71 tw_72 (Nat.le_of_ble_eq_true rfl) (Nat.le_of_ble_eq_true rfl) ?_
  exact xw_vret rfl dJxa1e45_init_da8c8_4 ⟨rfl, rfl⟩
theorem ct_alinit {mc sz : Int32} {ev : Value} (ho : So M 0 a = some [.int mc, ev, .int sz]) : CT G 2 40 mJxc12de_init_da8c8 [.ref a] M (fun r M1 => r = none ∧ M1 = oput M 0 a (some [.int 0, ev, .int sz])) := by
  refine ct_go (by decide +kernel) (Nat.le_of_ble_eq_true rfl) (L := [(0, .ref a)]) rfl ?_
  refine xw_aload_n dJxc12de_init_da8c8_0 rfl rfl ?_
  refine xw_callI (q2 := mJxa1e45_init_da8c8) (n2 := 0) (Bs := []) (rest := []) (ct_acinit) rfl dJxc12de_init_da8c8_1 rfl rfl tw_98 tw_99 tw_41 tw_100 (by decide +kernel) rfl (Nat.le_of_ble_eq_true rfl) (Nat.le_of_ble_eq_true rfl) (Nat.le_of_ble_eq_true rfl) (fun rr M1 hr hle1 => ?_)
  obtain ⟨rfl, hM1⟩ := hr
  obtain rfl := hM1.symm
  refine xw_aload_n dJxc12de_init_da8c8_4 rfl rfl ?_
  refine xw_iconst (v := 0) dJxc12de_init_da8c8_5 (by decide) ?_
  refine xw_put (ci := 0) (k := 0) tyJx4a65c dJxc12de_init_da8c8_6 ho rfl inJx4a65c tyJx4a65c_ok nmJx4a65c (by decide) tw_106 (Or.inl rfl) rfl rfl rfl rfl (Nat.le_of_ble_eq_true rfl) ?_
  dsimp only [List.set]
  exact xw_vret rfl dJxc12de_init_da8c8_9 ⟨rfl, rfl⟩
/-- new ArrayList(): an empty list of no capacity -/
theorem ct_linit (hw : Wf M) : CT G 3 60 mJx4a65c_init_da8c8 [.ref (Sz M)] (oput (grow M 3 0) 0 (Sz M) (some [.int 0, .null, .int 0])) (fun r M1 => r = none ∧ M1 = qput (grow M 3 50) (Sz M) (some ([], 0, 0, 0))) := by
  refine ct_go (by decide +kernel) (Nat.le_of_ble_eq_true rfl) (L := [(0, .ref (Sz M))]) rfl ?_
  have ho : So (oput (grow M 3 0) 0 (Sz M) (some [.int 0, .null, .int 0])) 0 (Sz M) = some [.int 0, .null, .int 0] := by rw [So_oput, if_pos ⟨rfl, rfl⟩]
  have hw5 : Wf (qput (grow M 3 50) (Sz M) (some ([], 0, 0, 0))) := by
    obtain ⟨w2, w3, w4, w5, w6⟩ := Wf.grown (n := 3) (k := 50) hw
    refine ⟨w2, w3, w4, w5, fun b y hb => ?_⟩
    rw [Sq_qput] at hb
    by_cases hc : b = Sz M
    · subst hc
      rw [if_pos rfl] at hb
      cases hb
      exact ⟨by show Sk (grow M 3 50) (Sz M) = 50; rw [Sk_grow, if_pos rfl], by show Sz M < Sz M + 1; omega, Nat.le_refl _, fun z => absurd z (by decide)⟩
    · rw [if_neg hc] at hb
      exact w6 b y hb
  refine xw_aload_n dJx4a65c_init_da8c8_0 rfl rfl ?_
  refine xw_callI (q2 := mJxc12de_init_da8c8) (n2 := 0) (Bs := []) (rest := []) (ct_alinit ho) rfl dJx4a65c_init_da8c8_1 rfl rfl tw_95 tw_96 tw_42 tw_97 (by decide +kernel) rfl (Nat.le_of_ble_eq_true rfl) (Nat.le_of_ble_eq_true rfl) (Nat.le_of_ble_eq_true rfl) (fun rr M1 hr hle1 => ?_)
  obtain ⟨rfl, rfl⟩ := hr
  refine xw_aload_n dJx4a65c_init_da8c8_4 rfl rfl ?_
  refine xw_getE tw_102 dJx4a65c_init_da8c8_5 ?_
  refine xw_put (ci := 0) (k := 1) tyJx4a65c dJx4a65c_init_da8c8_8 (show So _ 0 (Sz M) = some [.int 0, .null, .int 0] by rw [So_oput, if_pos ⟨rfl, rfl⟩]) rfl inJx4a65c tyJx4a65c_ok nmJx4a65c (by decide) tw_104 (Or.inl rfl) rfl rfl rfl rfl (Nat.le_of_ble_eq_true rfl) ?_
  dsimp only [List.set]
  refine xw_view (M2 := qput (grow M 3 50) (Sz M) (some ([], 0, 0, 0))) (fun _ => hw5) rfl rfl (fun H h => ?_) ?_
  · refine Sh.view h hw5 rfl (fun c b fs hb => Or.inl ?_) (fun b y hb => hb) (fun b y hb => hb) (fun c b y hb => Or.inl hb) (fun b y hb => ?_)
    · have hb' : So M c b = some fs := hb
      have := (hw.1 c b fs hb').2.2
      simp only [So_oput, So_grow]
      rw [if_neg (fun z => by omega), if_neg (fun z => by omega), if_neg (fun z => by omega)]
      exact hb'
    · rw [Sq_qput] at hb
      by_cases hc : b = Sz M
      · subst hc
        rw [if_pos rfl] at hb
        cases hb
        exact Or.inr ⟨by rw [So_oput, if_pos ⟨rfl, rfl⟩]; rfl, fun z => absurd z (by decide)⟩
      · rw [if_neg hc] at hb
        exact Or.inl hb
  exact xw_vret rfl dJx4a65c_init_da8c8_11 ⟨rfl, rfl⟩
/-! growing -/
theorem ct_newLength {cap : Nat} (h0 : 0 < cap) (hc : cap ≤ 10000000) : CT G 1 22 mJ8_newLength_cabcc [.int (nI cap), .int (nI 1), .int (nI (cap / 2))] M (fun r M1 => r = some (.int (nI (cap + max 1 (cap / 2)))) ∧ M1 = M) := by
  refine ct_go (by decide +kernel) (Nat.le_of_ble_eq_true rfl) (L := [(0, .int (nI cap)), (1, .int (nI 1)), (2, .int (nI (cap / 2)))]) rfl ?_
  have e1 : nI cap + (if nI 1 < nI (cap / 2) then nI (cap / 2) else nI 1) = nI (cap + max 1 (cap / 2)) := by
    by_cases c : 1 < cap / 2
    · rw [if_pos (nI_lt c (by omega)), nI_add, Nat.max_eq_right (by omega)]
    · rw [if_neg (nI_nlt (by omega) (by decide)), nI_add, Nat.max_eq_left (by omega)]
  have hb : cap + max 1 (cap / 2) ≤ 20000001 := by
    have := Nat.max_le.mpr (show 1 ≤ 10000001 ∧ cap / 2 ≤ 10000001 by omega)
    omega
  refine xw_iload_n dJ8_newLength_cabcc_0 rfl rfl ?_
  refine xw_iload_n dJ8_newLength_cabcc_1 rfl rfl ?_
  refine xw_iload_n dJ8_newLength_cabcc_2 rfl rfl ?_
  refine xw_max dJ8_newLength_cabcc_3 tw_298 tw_299 tw_55 tw_300 (Nat.le_of_ble_eq_true rfl) (Nat.le_of_ble_eq_true rfl) ?_
  refine xw_iadd dJ8_newLength_cabcc_6 ?_
  rw [e1]
  refine xw_istore_n (L2 := [(3, .int (nI (cap + max 1 (cap / 2)))), (0, .int (nI cap)), (1, .int (nI 1)), (2, .int (nI (cap / 2)))]) dJ8_newLength_cabcc_7 rfl (by decide) rfl ?_
  refine xw_iconst (v := 0) dJ8_newLength_cabcc_8 (by decide) ?_
  refine xw_iload_n dJ8_newLength_cabcc_9 rfl rfl ?_
  refine xw_pc (pc2 := 10) rfl ?_
  refine xw_icmp_ge (tgt := 21) dJ8_newLength_cabcc_10 (by decide) (fun zz => absurd zz (fun z => absurd (show nI (cap + max 1 (cap / 2)) ≤ nI 0 from z) (nI_nle (by omega) (by omega)))) (fun _ => ?_)
  refine xw_iload_n dJ8_newLength_cabcc_13 rfl rfl ?_
  refine xw_ldc (v := 2147483639) tw_301 dJ8_newLength_cabcc_14 ?_
  refine xw_icmp_gt (tgt := 21) dJ8_newLength_cabcc_16 (by decide) (fun zz => absurd zz (show ¬ (nI 2147483639 < nI (cap + max 1 (cap / 2))) from nI_nlt (by omega) (by omega))) (fun _ => ?_)
  refine xw_iload_n dJ8_newLength_cabcc_19 rfl rfl ?_
  exact xw_iret rfl dJ8_newLength_cabcc_20 ⟨rfl, rfl⟩
/-- a heap with a new data array of c places that hold g, now the list's -/
def gw (M : hx_S) (a : Nat) (mc nn : Int32) (c : Nat) (g : Nat → Option Nat) : hx_S := oput (rput (grow M c 24) 2 (Sz M) (some (c, g))) 0 a (some [.int mc, .ref (Sz M), .int nn])
theorem ct_copy3 {e cap c ci N : Nat} {f : Nat → Option Nat} {C : String} {T0 : u_T} (hw : Wf M) (hr0 : Sr M 2 e = some (cap, f)) (hcc : cap ≤ c) (hc : c ≤ 20000001) (hc0 : vwCl[ci]? = some (C, T0, N)) (hcast : ∀ s : State, KS G s → va_Nw (.castable C "java/lang/Object") s) (hel : ∀ i y : Nat, i < cap → f i = some y → ∃ vs, So M ci y = some vs) :
    CT G 1 26 mJ7_copyOf_6403c [.ref e, .int (nI c), .ref (gM G)] M (fun r M1 => r = some (.ref (Sz M)) ∧ M1 = rput (grow M c 24) 2 (Sz M) (some (c, va_cpy f (fun _ => none) 0 0 cap))) := by
  refine ct_go (by decide +kernel) (Nat.le_of_ble_eq_true rfl) (L := [(0, .ref e), (1, .int (nI c)), (2, .ref (gM G))]) rfl ?_
  have he : e < Sz M := (hw.2.2.2.1 2 e _ hr0).2.2
  have hr1 : Sr (rput (grow M c 24) 2 (Sz M) (some (c, fun _ => none))) 2 e = some (cap, f) := by rw [Sr_rput, if_neg (fun z => by omega)]; exact hr0
  have hr2 : Sr (rput (grow M c 24) 2 (Sz M) (some (c, fun _ => none))) 2 (Sz M) = some (c, fun _ => none) := by rw [Sr_rput, if_pos ⟨rfl, rfl⟩]
  have e0 : (nI cap).toNatClampNeg = cap := nI_clamp (by omega)
  have ez : (0 : Int32).toNatClampNeg = 0 := by decide
  have em : (if nI c < nI cap then nI c else nI cap) = nI cap := if_neg (nI_nlt hcc (by omega))
  refine xw_aload_n dJ7_copyOf_6403c_0 rfl rfl ?_
  refine xw_ldcM tw_330 dJ7_copyOf_6403c_1 ?_
  refine xw_acmp_ne (rx := (some (gM G))) (ry := (some (gM G))) (tgt := 13) dJ7_copyOf_6403c_3 (by decide) (fun zz => absurd rfl zz) (fun _ => ?_)
  refine xw_iload_n dJ7_copyOf_6403c_6 rfl rfl ?_
  refine xw_newR (k := 2) (by decide) tw_332 dJ7_copyOf_6403c_7 (nI_pos (by omega)) (nI_clamp (by omega)) (by omega) ?_
  refine xw_goto (tgt := 24) dJ7_copyOf_6403c_10 (by decide) ?_
  refine xw_astore_n (L2 := [(3, .ref (Sz M)), (0, .ref e), (1, .int (nI c)), (2, .ref (gM G))]) dJ7_copyOf_6403c_24 rfl (by decide) rfl ?_
  refine xw_aload_n dJ7_copyOf_6403c_25 rfl rfl ?_
  refine xw_iconst (v := 0) dJ7_copyOf_6403c_26 (by decide) ?_
  refine xw_aload_n dJ7_copyOf_6403c_27 rfl rfl ?_
  refine xw_iconst (v := 0) dJ7_copyOf_6403c_28 (by decide) ?_
  refine xw_aload_n dJ7_copyOf_6403c_29 rfl rfl ?_
  refine xw_rlen dJ7_copyOf_6403c_30 hr1 ?_
  refine xw_iload_n dJ7_copyOf_6403c_31 rfl rfl ?_
  refine xw_pc (pc2 := 32) rfl ?_
  refine xw_min dJ7_copyOf_6403c_32 tw_333 tw_334 tw_55 tw_335 (Nat.le_of_ble_eq_true rfl) (Nat.le_of_ble_eq_true rfl) ?_
  rw [em]
  refine xw_copy dJ7_copyOf_6403c_35 hr1 hr2 (by decide) (by decide) (nI_pos (by omega)) (by rw [e0, ez]; omega) (by rw [e0, ez]; omega) hc0 hcast (fun i hi y hy => by rw [e0] at hi; rw [ez, Nat.zero_add] at hy; exact hel i y hi hy) tw_336 tw_337 tw_57 (Nat.le_of_ble_eq_true rfl) (Nat.le_of_ble_eq_true rfl) ?_
  rw [e0, ez]
  refine xw_aload_n dJ7_copyOf_6403c_38 rfl rfl ?_
  exact xw_aret rfl (Or.inr ⟨_, rfl⟩) (Or.inr ⟨_, rfl⟩) dJ7_copyOf_6403c_39 ⟨rfl, rput_rput _ _ _ _ _⟩
theorem ct_copy2 {e cap c ci N : Nat} {f : Nat → Option Nat} {C : String} {T0 : u_T} (hw : Wf M) (hr0 : Sr M 2 e = some (cap, f)) (hcc : cap ≤ c) (hc : c ≤ 20000001) (hc0 : vwCl[ci]? = some (C, T0, N)) (hcast : ∀ s : State, KS G s → va_Nw (.castable C "java/lang/Object") s) (hel : ∀ i y : Nat, i < cap → f i = some y → ∃ vs, So M ci y = some vs) :
    CT G 2 49 mJ7_copyOf_1904c [.ref e, .int (nI c)] M (fun r M1 => r = some (.ref (Sz M)) ∧ M1 = rput (grow M c 24) 2 (Sz M) (some (c, va_cpy f (fun _ => none) 0 0 cap))) := by
  refine ct_go (by decide +kernel) (Nat.le_of_ble_eq_true rfl) (L := [(0, .ref e), (1, .int (nI c))]) rfl ?_
  refine xw_aload_n dJ7_copyOf_1904c_0 rfl rfl ?_
  refine xw_iload_n dJ7_copyOf_1904c_1 rfl rfl ?_
  refine xw_aload_n dJ7_copyOf_1904c_2 rfl rfl ?_
  refine xw_getC dJ7_copyOf_1904c_3 hr0 tw_308 tw_1059 tw_309 (Nat.le_of_ble_eq_true rfl) (Nat.le_of_ble_eq_true rfl) ?_
  refine xw_callS (q2 := mJ7_copyOf_6403c) (n2 := 3) (Bs := [.ref e, .int (nI c), .ref (gM G)]) (rest := []) (ct_copy3 hw hr0 hcc hc hc0 hcast hel) dJ7_copyOf_1904c_6 rfl tw_327 tw_328 tw_56 tw_329 (by decide +kernel) rfl (Nat.le_of_ble_eq_true rfl) (Nat.le_of_ble_eq_true rfl) (Nat.le_of_ble_eq_true rfl) (fun rr M1 hr hle1 => ?_)
  obtain ⟨rfl, rfl⟩ := hr
  exact xw_aret rfl (Or.inr ⟨_, rfl⟩) (Or.inr ⟨_, rfl⟩) dJ7_copyOf_1904c_9 ⟨rfl, rfl⟩
/-- how many places a full list gets -/
def ncap (cap : Nat) : Nat := if cap = 0 then 10 else cap + max 1 (cap / 2)
theorem ncap_gt (cap : Nat) : cap < ncap cap := by unfold ncap; split <;> omega
theorem ncap_le {cap : Nat} (h : cap ≤ 10000000) : ncap cap ≤ 20000001 := by
  unfold ncap
  split
  · omega
  · have := Nat.max_le.mpr (show 1 ≤ 10000001 ∧ cap / 2 ≤ 10000001 by omega)
    omega
/-- the open list a of c elements over the data e with cap places that hold f; no capacity: the static empty array -/
def qop (G : hx_G) (M : hx_S) (a : Nat) (mc : Int32) (n e cap : Nat) (f : Nat → Option Nat) : Prop := So M 0 a = some [.int mc, .ref e, .int (nI n)] ∧ ((cap = 0 ∧ e = gE G) ∨ (0 < cap ∧ Sr M 2 e = some (cap, f)))
theorem ct_grow1 {n e cap ci N : Nat} {mc : Int32} {f : Nat → Option Nat} {C : String} {T0 : u_T} (hw : Wf M) (ho : qop G M a mc n e cap f) (hn : n = cap) (hc : cap ≤ 10000000) (hc0 : vwCl[ci]? = some (C, T0, N)) (hcast : ∀ s : State, KS G s → va_Nw (.castable C "java/lang/Object") s) (hel : ∀ i y : Nat, i < cap → f i = some y → ∃ vs, So M ci y = some vs) :
    CT G 3 70 mJx4a65c_grow_92f84 [.ref a, .int (nI (n + 1))] M (fun r M1 => r = some (.ref (Sz M)) ∧ M1 = gw M a mc (nI n) (ncap cap) (if cap = 0 then (fun _ => none) else va_cpy f (fun _ => none) 0 0 cap)) := by
  obtain ⟨hob, hd⟩ := ho
  have haz : a < Sz M := (hw.1 0 a _ hob).2.2
  rcases hd with ⟨h0, rfl⟩ | ⟨h0, hr0⟩
  · subst h0
    subst hn
    refine ct_go (by decide +kernel) (Nat.le_of_ble_eq_true rfl) (L := [(0, .ref a), (1, .int (nI (0 + 1)))]) rfl ?_
    have e1 : (if (10 : Int32) < nI (0 + 1) then nI (0 + 1) else 10) = 10 := by decide +kernel
    have hob1 : So (rput (grow M 10 24) 2 (Sz M) (some (10, fun _ => none))) 0 a = some [.int mc, .ref (gE G), .int (nI 0)] := hob
    refine xw_aload_n dJx4a65c_grow_92f84_0 rfl rfl ?_
    refine xw_get (ci := 0) (k := 1) (v := .ref (gE G)) dJx4a65c_grow_92f84_1 hob rfl inJx4a65c (by decide) tw_104 (Or.inl rfl) rfl ?_
    refine xw_lenE dJx4a65c_grow_92f84_4 ?_
    refine xw_istore_n (L2 := [(2, .int 0), (0, .ref a), (1, .int (nI (0 + 1)))]) dJx4a65c_grow_92f84_5 rfl (by decide) rfl ?_
    refine xw_iload_n dJx4a65c_grow_92f84_6 rfl rfl ?_
    refine xw_if_gt (tgt := 20) dJx4a65c_grow_92f84_7 (by decide) (fun zz => absurd zz (by decide)) (fun _ => ?_)
    refine xw_aload_n dJx4a65c_grow_92f84_10 rfl rfl ?_
    refine xw_get (ci := 0) (k := 1) (v := .ref (gE G)) dJx4a65c_grow_92f84_11 hob rfl inJx4a65c (by decide) tw_104 (Or.inl rfl) rfl ?_
    refine xw_getE tw_102 dJx4a65c_grow_92f84_14 ?_
    refine xw_acmp_eq (rx := (some (gE G))) (ry := (some (gE G))) (tgt := 45) dJx4a65c_grow_92f84_17 (by decide) (fun _ => ?_) (fun zz => absurd rfl zz)
    refine xw_aload_n dJx4a65c_grow_92f84_45 rfl rfl ?_
    refine xw_bipush (v := 10) dJx4a65c_grow_92f84_46 (by decide) ?_
    refine xw_iload_n dJx4a65c_grow_92f84_48 rfl rfl ?_
    refine xw_max dJx4a65c_grow_92f84_49 tw_339 tw_299 tw_55 tw_300 (Nat.le_of_ble_eq_true rfl) (Nat.le_of_ble_eq_true rfl) ?_
    rw [e1]
    refine xw_newR (k := 2) (by decide) tw_340 dJx4a65c_grow_92f84_52 (N := 10) (by decide) (by decide) (by decide) ?_
    refine xw_dup_x1 dJx4a65c_grow_92f84_55 rfl rfl ?_
    refine xw_put (ci := 0) (k := 1) tyJx4a65c dJx4a65c_grow_92f84_56 hob1 rfl inJx4a65c tyJx4a65c_ok nmJx4a65c (by decide) tw_104 (Or.inl rfl) rfl rfl rfl rfl (Nat.le_of_ble_eq_true rfl) ?_
    dsimp only [List.set]
    exact xw_aret rfl (Or.inr ⟨_, rfl⟩) (Or.inr ⟨_, rfl⟩) dJx4a65c_grow_92f84_59 ⟨rfl, rfl⟩
  · subst hn
    have hne : ¬ n = 0 := by omega
    refine ct_go (by decide +kernel) (Nat.le_of_ble_eq_true rfl) (L := [(0, .ref a), (1, .int (nI (n + 1)))]) rfl ?_
    have e1 : nI (n + 1) - nI n = nI 1 := by
      have k := pk_sub (a := n + 1) (b := n) (by omega)
      rw [Nat.add_sub_cancel_left] at k
      exact k
    have e2 : nI n >>> ((1 : Int32) &&& 31) = nI (n / 2) := by
      have k := pk_shrN (n := n) (by omega) ((1 : Int32) &&& 31) 1 (by decide)
      rw [Nat.pow_one] at k
      exact k
    have e3 : ncap n = n + max 1 (n / 2) := by unfold ncap; rw [if_neg hne]
    have hb2 : n + max 1 (n / 2) ≤ 20000001 := by rw [← e3]; exact ncap_le hc
    have hcc : n ≤ n + max 1 (n / 2) := by omega
    refine xw_aload_n dJx4a65c_grow_92f84_0 rfl rfl ?_
    refine xw_pc (pc2 := 1) rfl ?_
    refine xw_get (ci := 0) (k := 1) (v := .ref e) dJx4a65c_grow_92f84_1 hob rfl inJx4a65c (by decide) tw_104 (Or.inl rfl) rfl ?_
    refine xw_rlen dJx4a65c_grow_92f84_4 hr0 ?_
    refine xw_istore_n (L2 := [(2, .int (nI n)), (0, .ref a), (1, .int (nI (n + 1)))]) dJx4a65c_grow_92f84_5 rfl (by decide) rfl ?_
    refine xw_iload_n dJx4a65c_grow_92f84_6 rfl rfl ?_
    refine xw_if_gt (tgt := 20) dJx4a65c_grow_92f84_7 (by decide) (fun _ => ?_) (fun zz => absurd (show (0 : Int32) < nI n from nI_lt h0 (by omega)) zz)
    refine xw_iload_n dJx4a65c_grow_92f84_20 rfl rfl ?_
    refine xw_iload_n dJx4a65c_grow_92f84_21 rfl rfl ?_
    refine xw_iload_n dJx4a65c_grow_92f84_22 rfl rfl ?_
    refine xw_isub dJx4a65c_grow_92f84_23 ?_
    refine xw_iload_n dJx4a65c_grow_92f84_24 rfl rfl ?_
    refine xw_iconst (v := 1) dJx4a65c_grow_92f84_25 (by decide) ?_
    refine xw_ishr dJx4a65c_grow_92f84_26 ?_
    rw [e1, e2]
    refine xw_callS (q2 := mJ8_newLength_cabcc) (n2 := 3) (Bs := [.int (nI n), .int (nI 1), .int (nI (n / 2))]) (rest := []) (ct_newLength h0 hc) dJx4a65c_grow_92f84_27 rfl tw_295 tw_296 tw_54 tw_297 (by decide +kernel) rfl (Nat.le_of_ble_eq_true rfl) (Nat.le_of_ble_eq_true rfl) (Nat.le_of_ble_eq_true rfl) (fun rr M1 hr hle1 => ?_)
    obtain ⟨rfl, hM1⟩ := hr
    obtain rfl := hM1.symm
    refine xw_istore_n (L2 := [(3, .int (nI (n + max 1 (n / 2)))), (2, .int (nI n)), (0, .ref a), (1, .int (nI (n + 1)))]) dJx4a65c_grow_92f84_30 rfl (by decide) rfl ?_
    refine xw_aload_n dJx4a65c_grow_92f84_31 rfl rfl ?_
    refine xw_aload_n dJx4a65c_grow_92f84_32 rfl rfl ?_
    refine xw_get (ci := 0) (k := 1) (v := .ref e) dJx4a65c_grow_92f84_33 hob rfl inJx4a65c (by decide) tw_104 (Or.inl rfl) rfl ?_
    refine xw_iload_n dJx4a65c_grow_92f84_36 rfl rfl ?_
    refine xw_pc (pc2 := 37) rfl ?_
    refine xw_callS (q2 := mJ7_copyOf_1904c) (n2 := 2) (Bs := [.ref e, .int (nI (n + max 1 (n / 2)))]) (rest := [.ref a]) (ct_copy2 hw hr0 hcc hb2 hc0 hcast hel) dJx4a65c_grow_92f84_37 rfl tw_305 tw_306 tw_56 tw_307 (by decide +kernel) rfl (Nat.le_of_ble_eq_true rfl) (Nat.le_of_ble_eq_true rfl) (Nat.le_of_ble_eq_true rfl) (fun rr M1 hr hle1 => ?_)
    obtain ⟨rfl, rfl⟩ := hr
    refine xw_dup_x1 dJx4a65c_grow_92f84_40 rfl rfl ?_
    refine xw_put (ci := 0) (k := 1) tyJx4a65c dJx4a65c_grow_92f84_41 (show So (rput (grow M (n + max 1 (n / 2)) 24) 2 (Sz M) (some (n + max 1 (n / 2), va_cpy f (fun _ => none) 0 0 n))) 0 a = some [.int mc, .ref e, .int (nI n)] from hob) rfl inJx4a65c tyJx4a65c_ok nmJx4a65c (by decide) tw_104 (Or.inl rfl) rfl rfl rfl rfl (Nat.le_of_ble_eq_true rfl) ?_
    dsimp only [List.set]
    exact xw_aret rfl (Or.inr ⟨_, rfl⟩) (Or.inr ⟨_, rfl⟩) dJx4a65c_grow_92f84_44 ⟨rfl, by rw [if_neg hne, e3]; rfl⟩
theorem ct_grow0 {n e cap ci N : Nat} {mc : Int32} {f : Nat → Option Nat} {C : String} {T0 : u_T} (hw : Wf M) (ho : qop G M a mc n e cap f) (hn : n = cap) (hc : cap ≤ 10000000) (hc0 : vwCl[ci]? = some (C, T0, N)) (hcast : ∀ s : State, KS G s → va_Nw (.castable C "java/lang/Object") s) (hel : ∀ i y : Nat, i < cap → f i = some y → ∃ vs, So M ci y = some vs) :
    CT G 4 93 mJx4a65c_grow_d5877 [.ref a] M (fun r M1 => r = some (.ref (Sz M)) ∧ M1 = gw M a mc (nI n) (ncap cap) (if cap = 0 then (fun _ => none) else va_cpy f (fun _ => none) 0 0 cap)) := by
  refine ct_go (by decide +kernel) (Nat.le_of_ble_eq_true rfl) (L := [(0, .ref a)]) rfl ?_
  refine xw_aload_n dJx4a65c_grow_d5877_0 rfl rfl ?_
  refine xw_aload_n dJx4a65c_grow_d5877_1 rfl rfl ?_
  refine xw_get (ci := 0) (k := 2) (v := .int (nI n)) dJx4a65c_grow_d5877_2 ho.1 rfl inJx4a65c (by decide) tw_105 (Or.inl rfl) rfl ?_
  refine xw_iconst (v := 1) dJx4a65c_grow_d5877_5 (by decide) ?_
  refine xw_iadd dJx4a65c_grow_d5877_6 ?_
  rw [nI_1]
  refine xw_callV (q2 := mJx4a65c_grow_92f84) (n2 := 1) (ci := 0) (Bs := [.int (nI (n + 1))]) (rest := []) (ct_grow1 hw ho hn hc hc0 hcast hel) dJx4a65c_grow_d5877_7 rfl (o_at ho.1) rfl rfl tw_291 tw_293 tw_3 tw_43 tw_294 (by decide +kernel) rfl (Nat.le_of_ble_eq_true rfl) (Nat.le_of_ble_eq_true rfl) (Nat.le_of_ble_eq_true rfl) (fun rr M1 hr hle1 => ?_)
  obtain ⟨rfl, rfl⟩ := hr
  exact xw_aret rfl (Or.inr ⟨_, rfl⟩) (Or.inr ⟨_, rfl⟩) dJx4a65c_grow_d5877_10 ⟨rfl, rfl⟩
end J2
