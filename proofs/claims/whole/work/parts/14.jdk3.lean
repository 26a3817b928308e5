/-! ARRAYLIST: add, remove, clear -/
section J3
variable {G : hx_G} {M : hx_S} {a ci N : Nat} {C : String} {T0 : u_T}
abbrev exf (f : Nat → Option Nat) (cap : Nat) : Nat → Option Nat := if cap = 0 then (fun _ => none) else va_cpy f (fun _ => none) 0 0 cap
def a3 (M : hx_S) (a : Nat) (mc : Int32) (n e cap : Nat) (f : Nat → Option Nat) (v : Nat) : hx_S :=
  if n = cap then oput (rput (gw M a mc (nI n) (ncap cap) (exf f cap)) 2 (Sz M) (some (ncap cap, va_up (exf f cap) n (some v)))) 0 a (some [.int mc, .ref (Sz M), .int (nI (n + 1))])
  else oput (rput M 2 e (some (cap, va_up f n (some v)))) 0 a (some [.int mc, .ref e, .int (nI (n + 1))])
theorem ct_add3 {n e cap v : Nat} {mc : Int32} {f : Nat → Option Nat} {vs : List Value} (hw : Wf M) (ho : qop G M a mc n e cap f) (hn : n ≤ cap) (hc : cap ≤ 10000000) (hci : 0 < ci) (hv : So M ci v = some vs) (hc0 : vwCl[ci]? = some (C, T0, N)) (hcast : ∀ s : State, KS G s → va_Nw (.castable C "java/lang/Object") s) (hel : ∀ i y : Nat, i < cap → f i = some y → ∃ vs, So M ci y = some vs) :
    CT G 5 113 mJx4a65c_add_72be8 [.ref a, .ref v, .ref e, .int (nI n)] M (fun r M1 => r = none ∧ M1 = a3 M a mc n e cap f v) := by
  have hlen : ∀ {P : Option Value → hx_S → Prop} {L : List (Nat × Value)} {st : List Value}, XW G 5 113 mJx4a65c_add_72be8 [.ref a, .ref v, .ref e, .int (nI n)] M P M 3 L (.int (nI cap) :: st) → XW G 5 113 mJx4a65c_add_72be8 [.ref a, .ref v, .ref e, .int (nI n)] M P M 2 L (.ref e :: st) := by
    intro P L st k
    rcases ho.2 with ⟨h0, he⟩ | ⟨h0, hr0⟩
    · subst he
      subst h0
      exact xw_lenE dJx4a65c_add_72be8_2 k
    · exact xw_rlen dJx4a65c_add_72be8_2 hr0 k
  refine ct_go (by decide +kernel) (Nat.le_of_ble_eq_true rfl) (L := [(0, .ref a), (1, .ref v), (2, .ref e), (3, .int (nI n))]) rfl ?_
  refine xw_iload_n dJx4a65c_add_72be8_0 rfl rfl ?_
  refine xw_aload_n dJx4a65c_add_72be8_1 rfl rfl ?_
  refine hlen ?_
  by_cases hnc : n = cap
  · refine xw_icmp_ne (tgt := 11) dJx4a65c_add_72be8_3 (by decide) (fun zz => absurd (by rw [hnc]) zz) (fun _ => ?_)
    refine xw_aload_n dJx4a65c_add_72be8_6 rfl rfl ?_
    refine xw_callV (q2 := mJx4a65c_grow_d5877) (n2 := 0) (ci := 0) (Bs := []) (rest := []) (ct_grow0 hw ho hnc hc hc0 hcast hel) dJx4a65c_add_72be8_7 rfl (o_at ho.1) rfl rfl tw_287 tw_289 tw_2 tw_43 tw_290 (by decide +kernel) rfl (Nat.le_of_ble_eq_true rfl) (Nat.le_of_ble_eq_true rfl) (Nat.le_of_ble_eq_true rfl) (fun rr M1 hr hle1 => ?_)
    obtain ⟨rfl, rfl⟩ := hr
    have hob' : So (gw M a mc (nI n) (ncap cap) (exf f cap)) 0 a = some [.int mc, .ref (Sz M), .int (nI n)] := by unfold gw; rw [So_oput, if_pos ⟨rfl, rfl⟩]
    have hr' : Sr (gw M a mc (nI n) (ncap cap) (exf f cap)) 2 (Sz M) = some (ncap cap, exf f cap) := by unfold gw; rw [Sr_oput, Sr_rput, if_pos ⟨rfl, rfl⟩]
    have hv' : So (gw M a mc (nI n) (ncap cap) (exf f cap)) ci v = some vs := by unfold gw; rw [So_oput, if_neg (fun z => by omega)]; exact hv
    have hlt : n < ncap cap := by rw [hnc]; exact ncap_gt cap
    have hnl := ncap_le hc
    refine xw_astore_n (L2 := [(2, .ref (Sz M)), (0, .ref a), (1, .ref v), (3, .int (nI n))]) dJx4a65c_add_72be8_10 rfl (by decide) rfl ?_
    refine xw_aload_n dJx4a65c_add_72be8_11 rfl rfl ?_
    refine xw_iload_n dJx4a65c_add_72be8_12 rfl rfl ?_
    refine xw_aload_n dJx4a65c_add_72be8_13 rfl rfl ?_
    refine xw_aast dJx4a65c_add_72be8_14 hr' (vp_in_nI hlt (by omega)) hv' hc0 (fit_cast hcast) ?_
    rw [nI_clamp (by omega)]
    refine xw_aload_n dJx4a65c_add_72be8_15 rfl rfl ?_
    refine xw_iload_n dJx4a65c_add_72be8_16 rfl rfl ?_
    refine xw_iconst (v := 1) dJx4a65c_add_72be8_17 (by decide) ?_
    refine xw_iadd dJx4a65c_add_72be8_18 ?_
    rw [nI_1]
    refine xw_put (ci := 0) (k := 2) tyJx4a65c dJx4a65c_add_72be8_19 (show So (rput (gw M a mc (nI n) (ncap cap) (exf f cap)) 2 (Sz M) (some (ncap cap, va_up (exf f cap) n (some v)))) 0 a = some [.int mc, .ref (Sz M), .int (nI n)] from hob') rfl inJx4a65c tyJx4a65c_ok nmJx4a65c (by decide) tw_105 (Or.inl rfl) rfl rfl rfl rfl (Nat.le_of_ble_eq_true rfl) ?_
    dsimp only [List.set]
    exact xw_vret rfl dJx4a65c_add_72be8_22 ⟨rfl, by unfold a3; rw [if_pos hnc]⟩
  · have h0 : 0 < cap := by omega
    have hr0 : Sr M 2 e = some (cap, f) := by
      rcases ho.2 with z | z
      · exact absurd z.1 (by omega)
      · exact z.2
    refine xw_icmp_ne (tgt := 11) dJx4a65c_add_72be8_3 (by decide) (fun _ => ?_) (fun zz => absurd zz (fun z => hnc ((nI_eq (by omega) (by omega)).mp z)))
    refine xw_aload_n dJx4a65c_add_72be8_11 rfl rfl ?_
    refine xw_iload_n dJx4a65c_add_72be8_12 rfl rfl ?_
    refine xw_aload_n dJx4a65c_add_72be8_13 rfl rfl ?_
    refine xw_pc (pc2 := 14) rfl ?_
    refine xw_aast dJx4a65c_add_72be8_14 hr0 (vp_in_nI (show n < cap by omega) (by omega)) hv hc0 (fit_cast hcast) ?_
    rw [nI_clamp (by omega)]
    refine xw_aload_n dJx4a65c_add_72be8_15 rfl rfl ?_
    refine xw_iload_n dJx4a65c_add_72be8_16 rfl rfl ?_
    refine xw_iconst (v := 1) dJx4a65c_add_72be8_17 (by decide) ?_
    refine xw_iadd dJx4a65c_add_72be8_18 ?_
    rw [nI_1]
    refine xw_put (ci := 0) (k := 2) tyJx4a65c dJx4a65c_add_72be8_19 (show So (rput M 2 e (some (cap, va_up f n (some v)))) 0 a = some [.int mc, .ref e, .int (nI n)] from ho.1) rfl inJx4a65c tyJx4a65c_ok nmJx4a65c (by decide) tw_105 (Or.inl rfl) rfl rfl rfl rfl (Nat.le_of_ble_eq_true rfl) ?_
    dsimp only [List.set]
    exact xw_vret rfl dJx4a65c_add_72be8_22 ⟨rfl, by unfold a3; rw [if_neg hnc]⟩
/-- what add makes of a list -/
def addq (M : hx_S) (a : Nat) (x : List Nat × Nat × Nat × Int32) (v : Nat) : hx_S :=
  if x.1.length < x.2.1 then qput M a (some (x.1 ++ [v], x.2.1, x.2.2.1, x.2.2.2 + 1))
  else qput (grow M (ncap x.2.1) (100 + a)) a (some (x.1 ++ [v], ncap x.2.1, Sz M, x.2.2.2 + 1))
theorem app_at (xs : List Nat) (v j : Nat) : (xs ++ [v])[j]? = if j = xs.length then some v else xs[j]? := by
  by_cases h : j = xs.length
  · subst h; simp
  · rw [if_neg h]
    by_cases h2 : j < xs.length
    · rw [List.getElem?_append_left h2]
    · rw [List.getElem?_append_right (by omega), List.getElem?_eq_none (by simp; omega), List.getElem?_eq_none (by omega)]
theorem ct_add {x : List Nat × Nat × Nat × Int32} {v : Nat} {vs : List Value} (hx : Sq M a = some x) (hc : x.2.1 ≤ 10000000) (hci : 0 < ci) (hv : So M ci v = some vs) (hc0 : vwCl[ci]? = some (C, T0, N)) (hcast : ∀ s : State, KS G s → va_Nw (.castable C "java/lang/Object") s) (hel : ∀ y, y ∈ x.1 → ∃ vs, So M ci y = some vs) :
    CT G 6 136 mJx4a65c_add_9ea2d [.ref a, .ref v] M (fun r M1 => r = some (.int 1) ∧ M1 = addq M a x v) := by
  refine ct_wf fun hw => ?_
  obtain ⟨k1, k2, k3, k4⟩ := hw.2.2.2.2 a x hx
  obtain ⟨xs, cap, e, mc⟩ := x
  simp only at k3 k4 hc hel
  obtain ⟨eE, heE⟩ : ∃ eE, eE = (if cap = 0 then gE G else e) := ⟨_, rfl⟩
  have ho0 : So (qraw G M a (xs, cap, e, mc)) 0 a = some [.int mc, .ref eE, .int (nI xs.length)] := by rw [So_qself, qobj, heE]
  have hw1 : Wf (oput (qraw G M a (xs, cap, e, mc)) 0 a (some [.int (mc + 1), .ref eE, .int (nI xs.length)])) := Wf.oset (wf_qraw hw hx) ho0
  have ho1 : So (oput (qraw G M a (xs, cap, e, mc)) 0 a (some [.int (mc + 1), .ref eE, .int (nI xs.length)])) 0 a = some [.int (mc + 1), .ref eE, .int (nI xs.length)] := by rw [So_oput, if_pos ⟨rfl, rfl⟩]
  have hop : qop G (oput (qraw G M a (xs, cap, e, mc)) 0 a (some [.int (mc + 1), .ref eE, .int (nI xs.length)])) a (mc + 1) xs.length eE cap (fun j => xs[j]?) := by
    refine ⟨ho1, ?_⟩
    by_cases h0 : cap = 0
    · exact Or.inl ⟨h0, by rw [heE, if_pos h0]⟩
    · refine Or.inr ⟨by omega, ?_⟩
      rw [heE, if_neg h0, Sr_oput]
      exact Sr_qself (x := (xs, cap, e, mc)) (show 0 < cap by omega)
  have hso1 : ∀ c b, 0 < c → So (oput (qraw G M a (xs, cap, e, mc)) 0 a (some [.int (mc + 1), .ref eE, .int (nI xs.length)])) c b = So M c b := by
    intro c b h
    rw [So_oput, if_neg (fun z => by omega), So_qraw, if_neg (fun z => by omega)]
  refine ct_go (by decide +kernel) (Nat.le_of_ble_eq_true rfl) (L := [(0, .ref a), (1, .ref v)]) rfl (xw_open hx ?_)
  refine xw_aload_n dJx4a65c_add_9ea2d_0 rfl rfl ?_
  refine xw_dup dJx4a65c_add_9ea2d_1 rfl ?_
  refine xw_get (ci := 0) (k := 0) (v := .int mc) dJx4a65c_add_9ea2d_2 ho0 rfl inJx4a65c (by decide) tw_107 (Or.inr tw_sf) rfl ?_
  refine xw_iconst (v := 1) dJx4a65c_add_9ea2d_5 (by decide) ?_
  refine xw_iadd dJx4a65c_add_9ea2d_6 ?_
  refine xw_put (ci := 0) (k := 0) tyJx4a65c dJx4a65c_add_9ea2d_7 ho0 rfl inJx4a65c tyJx4a65c_ok nmJx4a65c (by decide) tw_107 (Or.inr tw_sf) rfl rfl rfl rfl (Nat.le_of_ble_eq_true rfl) ?_
  dsimp only [List.set]
  refine xw_aload_n dJx4a65c_add_9ea2d_10 rfl rfl ?_
  refine xw_aload_n dJx4a65c_add_9ea2d_11 rfl rfl ?_
  refine xw_aload_n dJx4a65c_add_9ea2d_12 rfl rfl ?_
  refine xw_get (ci := 0) (k := 1) (v := .ref eE) dJx4a65c_add_9ea2d_13 ho1 rfl inJx4a65c (by decide) tw_104 (Or.inl rfl) rfl ?_
  refine xw_aload_n dJx4a65c_add_9ea2d_16 rfl rfl ?_
  refine xw_get (ci := 0) (k := 2) (v := .int (nI xs.length)) dJx4a65c_add_9ea2d_17 ho1 rfl inJx4a65c (by decide) tw_105 (Or.inl rfl) rfl ?_
  refine xw_callV (q2 := mJx4a65c_add_72be8) (n2 := 3) (ci := 0) (Bs := [.ref v, .ref eE, .int (nI xs.length)]) (rest := []) (ct_add3 hw1 hop k3 hc hci (by rw [hso1 ci v hci]; exact hv) hc0 hcast (fun i y hi hy => by rw [hso1 ci y hci]; exact hel y (List.mem_of_getElem? hy))) dJx4a65c_add_9ea2d_20 rfl (o_at ho1) rfl rfl tw_283 tw_285 tw_1 tw_43 tw_286 (by decide +kernel) rfl (Nat.le_of_ble_eq_true rfl) (Nat.le_of_ble_eq_true rfl) (Nat.le_of_ble_eq_true rfl) (fun rr M1 hr hle1 => ?_)
  obtain ⟨rfl, rfl⟩ := hr
  by_cases hlt : xs.length < cap
  · have hcp : ¬ xs.length = cap := by omega
    have hc1 : ¬ cap = 0 := by omega
    have hee : eE = e := by rw [heE, if_neg hc1]
    subst hee
    have hw2 : Wf (qput M a (some (xs ++ [v], cap, eE, mc + 1))) := wf_qset hw hx (by simp; omega) k4
    refine xw_view (M2 := addq M a (xs, cap, eE, mc) v) (fun _ => ?_) ?_ ?_ (fun H h => ?_) ?_
    · unfold addq; rw [if_pos hlt]; exact hw2
    · unfold addq a3; rw [if_pos hlt, if_neg hcp]; simp only [Sz_oput, Sz_iput, Sz_jput, Sz_rput, Sz_qput, Sz_kput, Sz_grow, Sz_qraw]
    · unfold addq a3; rw [if_pos hlt, if_neg hcp]; simp only [Sl_oput, Sl_iput, Sl_jput, Sl_rput, Sl_qput, Sl_kput, Sl_grow, Sl_qraw]
    · unfold addq; rw [if_pos hlt]
      refine sh_qset hw hx ?_ ?_ ?_ ?_ ?_ ?_ ?_ hw2 h
      · unfold a3; rw [if_neg hcp]; simp only [Sz_oput, Sz_iput, Sz_jput, Sz_rput, Sz_qput, Sz_kput, Sz_grow, Sz_qraw]
      · intro c b
        unfold a3
        rw [if_neg hcp, So_oput, So_rput, So_oput, So_qraw]
        by_cases hz : c = 0 ∧ b = a
        · rw [if_pos hz, if_pos hz]; simp [qobj, hc1]
        · rw [if_neg hz, if_neg hz, if_neg hz, if_neg hz]
      · intro b; unfold a3; rw [if_neg hcp]; simp only [Si_oput, Si_iput, Si_jput, Si_rput, Si_qput, Si_kput, Si_grow, Si_qraw]
      · intro b; unfold a3; rw [if_neg hcp]; simp only [Sj_oput, Sj_iput, Sj_jput, Sj_rput, Sj_qput, Sj_kput, Sj_grow, Sj_qraw]
      · intro c b y hy
        unfold a3
        rw [if_neg hcp, Sr_oput, Sr_rput, if_neg (fun z => ?_), Sr_oput, Sr_qraw, if_neg (fun z => ?_)]
        · exact hy
        · have e1 := hw.2.2.2.1 c b y hy
          rw [z.2.2, (k4 z.1).1] at e1
          omega
        · have e1 := hw.2.2.2.1 c b y hy
          rw [z.2, (k4 (by omega)).1] at e1
          omega
      · intro b hb; unfold a3; rw [if_neg hcp]; simp only [Sq_oput, Sq_iput, Sq_jput, Sq_rput, Sq_qput, Sq_kput, Sq_grow, Sq_qraw, if_neg hb]
      · intro _
        refine ⟨va_up (fun j => xs[j]?) xs.length (some v), ?_, fun j hj => ?_⟩
        · unfold a3; rw [if_neg hcp, Sr_oput, Sr_rput, if_pos ⟨rfl, rfl⟩]
        · show va_up _ _ _ j = (xs ++ [v])[j]?
          rw [app_at]
          rfl
    refine xw_iconst (v := 1) dJx4a65c_add_9ea2d_23 (by decide) ?_
    refine xw_pc (pc2 := 24) rfl ?_
    exact xw_zret rfl rfl dJx4a65c_add_9ea2d_24 ⟨rfl, rfl⟩
  · have hcp : xs.length = cap := by omega
    have hkey : ∀ b, b < Sz M → Sk (grow M (ncap cap) (100 + a)) b = Sk M b := fun b hb => by rw [Sk_grow, if_neg (by omega)]
    have hwg : Wf (grow M (ncap cap) (100 + a)) := Wf.grown hw
    have hng := ncap_gt cap
    have hsz1 : Sz (oput (qraw G M a (xs, cap, e, mc)) 0 a (some [.int (mc + 1), .ref eE, .int (nI xs.length)])) = Sz M := by rw [Sz_oput, Sz_qraw]
    have hw2 : Wf (qput (grow M (ncap cap) (100 + a)) a (some (xs ++ [v], ncap cap, Sz M, mc + 1))) := wf_qset hwg (x := (xs, cap, e, mc)) hx (by simp; omega) (fun _ => ⟨by show Sk (grow M (ncap cap) (100 + a)) (Sz M) = _; rw [Sk_grow, if_pos rfl], by show Sz M < Sz M + 1; omega⟩)
    refine xw_view (M2 := addq M a (xs, cap, e, mc) v) (fun _ => ?_) ?_ ?_ (fun H h => ?_) ?_
    · unfold addq; rw [if_neg hlt]; exact hw2
    · unfold addq a3; rw [if_neg hlt, if_pos hcp]; unfold gw; simp only [Sz_oput, Sz_iput, Sz_jput, Sz_rput, Sz_qput, Sz_kput, Sz_grow, Sz_qraw]
    · unfold addq a3; rw [if_neg hlt, if_pos hcp]; unfold gw; simp only [Sl_oput, Sl_iput, Sl_jput, Sl_rput, Sl_qput, Sl_kput, Sl_grow, Sl_qraw]
    · unfold addq; rw [if_neg hlt]
      refine sh_qset hwg (x := (xs, cap, e, mc)) hx ?_ ?_ ?_ ?_ ?_ ?_ ?_ hw2 h
      · unfold a3 gw; rw [if_pos hcp]; simp only [Sz_oput, Sz_iput, Sz_jput, Sz_rput, Sz_qput, Sz_kput, Sz_grow, Sz_qraw]
      · intro c b
        unfold a3 gw
        rw [if_pos hcp, So_oput, So_rput, So_oput, So_rput, So_grow, So_oput, So_qraw]
        by_cases hz : c = 0 ∧ b = a
        · rw [if_pos hz, if_pos hz, hsz1]
          have : ¬ ncap cap = 0 := by omega
          simp [qobj, this]
        · rw [if_neg hz, if_neg hz, if_neg hz, if_neg hz, if_neg hz, So_grow]
      · intro b; unfold a3 gw; rw [if_pos hcp]; simp only [Si_oput, Si_iput, Si_jput, Si_rput, Si_qput, Si_kput, Si_grow, Si_qraw]
      · intro b; unfold a3 gw; rw [if_pos hcp]; simp only [Sj_oput, Sj_iput, Sj_jput, Sj_rput, Sj_qput, Sj_kput, Sj_grow, Sj_qraw]
      · intro c b y hy
        have hy' : Sr M c b = some y := hy
        have e1 := hw.2.2.2.1 c b y hy'
        unfold a3 gw
        rw [if_pos hcp, Sr_oput, Sr_rput, if_neg (fun z => ?_), Sr_oput, Sr_rput, if_neg (fun z => ?_), Sr_grow, Sr_oput, Sr_qraw, if_neg (fun z => ?_)]
        · exact hy'
        · rw [z.2.2, (k4 z.1).1] at e1
          omega
        · rw [hsz1] at z
          omega
        · rw [hsz1] at z
          omega
      · intro b hb; unfold a3 gw; rw [if_pos hcp]; simp only [Sq_oput, Sq_iput, Sq_jput, Sq_rput, Sq_qput, Sq_kput, Sq_grow, Sq_qraw, if_neg hb]
      · intro _
        refine ⟨va_up (exf (fun j => xs[j]?) cap) xs.length (some v), ?_, fun j hj => ?_⟩
        · unfold a3; rw [if_pos hcp, Sr_oput, Sr_rput, hsz1, if_pos ⟨rfl, rfl⟩]
        · show va_up (exf (fun j => xs[j]?) cap) xs.length (some v) j = (xs ++ [v])[j]?
          rw [app_at]
          by_cases h2 : j = xs.length
          · rw [if_pos h2]; subst h2; exact va_up_self _ _ _
          · rw [if_neg h2, va_up_ne _ _ h2]
            unfold exf
            by_cases h3 : cap = 0
            · rw [if_pos h3, List.getElem?_eq_none (by omega)]
            · rw [if_neg h3]
              by_cases h4 : j < cap
              · rw [pk_cpy_in (by omega) (by omega)]
                show xs[0 + (j - 0)]? = _
                rw [Nat.zero_add, Nat.sub_zero]
              · rw [pk_cpy_out (by omega), List.getElem?_eq_none (by omega)]
    refine xw_iconst (v := 1) dJx4a65c_add_9ea2d_23 (by decide) ?_
    exact xw_zret rfl rfl dJx4a65c_add_9ea2d_24 ⟨rfl, rfl⟩
end J3
