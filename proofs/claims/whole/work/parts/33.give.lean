/-! THE CLASS: give, giveOnSide -/
def gives (σ : hs_S) (l : List N3) (f : N3 → Bool) (c : Nat) (v : V2) : hs_S := l.foldl (fun s a => if f a = true then come s a.2.1 a.2.2 c v else s) σ
def give (σ : hs_S) (i c : Nat) (v : V2) : hs_S := gives σ (nd σ i).2.2 (fun _ => true) c v
def giveS (σ : hs_S) (i s c : Nat) (v : V2) : hs_S := gives σ (nd σ i).2.2 (fun a => a.1 == s) c v
/-- what a token's coming leaves alone -/
def same9 (σ σ' : hs_S) : Prop := same6 σ σ' ∧ sK σ' = sK σ ∧ (sW σ' = sW σ ∧ sAl σ' = sAl σ ∧ sB σ' = sB σ)
theorem same9.rf (σ : hs_S) : same9 σ σ := ⟨⟨rfl, rfl, rfl, rfl, rfl, rfl⟩, rfl, rfl, rfl, rfl⟩
theorem same9.tr {σ σ' σ2 : hs_S} (h : same9 σ σ') (k : same9 σ' σ2) : same9 σ σ2 := by
  obtain ⟨⟨a1, a2, a3, a4, a5, a6⟩, a7, a8, a9, a10⟩ := h
  obtain ⟨⟨b1, b2, b3, b4, b5, b6⟩, b7, b8, b9, b10⟩ := k
  exact ⟨⟨b1.trans a1, b2.trans a2, b3.trans a3, b4.trans a4, b5.trans a5, b6.trans a6⟩, b7.trans a7, b8.trans a8, b9.trans a9, b10.trans a10⟩
theorem come_same (σ : hs_S) (i p c : Nat) (v : V2) : same9 σ (come σ i p c v) := by
  unfold come
  split
  · exact same9.rf σ
  · split
    · exact ⟨⟨rfl, rfl, rfl, rfl, rfl, rfl⟩, rfl, rfl, rfl, rfl⟩
    · split
      · exact ⟨⟨rfl, rfl, rfl, rfl, rfl, rfl⟩, rfl, rfl, rfl, rfl⟩
      · split
        · exact ⟨⟨rfl, rfl, rfl, rfl, rfl, rfl⟩, rfl, rfl, rfl, rfl⟩
        · exact ⟨⟨rfl, rfl, rfl, rfl, rfl, rfl⟩, rfl, rfl, rfl, rfl⟩
theorem gives_same (l : List N3) (f : N3 → Bool) (c : Nat) (v : V2) : ∀ σ : hs_S, same9 σ (gives σ l f c v) := by
  induction l with
  | nil => exact fun σ => same9.rf σ
  | cons a l ih =>
    intro σ
    show same9 σ (gives (if f a = true then come σ a.2.1 a.2.2 c v else σ) l f c v)
    split
    · exact (come_same σ _ _ _ _).tr (ih _)
    · exact ih σ
theorem nd_cg {σ σ' : hs_S} (h : sN σ' = sN σ) (i : Nat) : nd σ' i = nd σ i := by unfold nd; rw [h]
theorem pts_cg {σ σ' : hs_S} (h : sN σ' = sN σ) (i : Nat) : pts σ' i = pts σ i := by unfold pts; rw [nd_cg h]
theorem ar1 {x y z n : Nat} (h : x + 250 * (z + 1) ≤ y + 1500) (k : y + 1500 ≤ n) : x + 250 ≤ n := Nat.le_trans (Nat.le_trans (Nat.add_le_add_left (Nat.le_mul_of_pos_right 250 (Nat.succ_pos z)) x) h) k
theorem ar2 {x y z l n : Nat} (h : x + 250 * (z + 1) ≤ y + 250 * l) (hl : l ≤ 6) (k : y + 1500 ≤ n) : x + 250 ≤ n := Nat.le_trans (Nat.le_trans (Nat.add_le_add_left (Nat.le_mul_of_pos_right 250 (Nat.succ_pos z)) x) h) (Nat.le_trans (Nat.add_le_add_left (Nat.mul_le_mul_left 250 hl) y) k)
section GIVE
variable {G : hx_G} {M : hx_S} {A : hA} {Γ : hG} {σ : hs_S} {γ : hf_S} {b : Nat}
theorem ct_give (h : Rep M A Γ σ γ b) (hb : b + 1500 ≤ 14400000) {i c w : Nat} {v : V2} (hi : i < (sN σ).length) (hc : c < (sC σ).length) (hwv : So M 9 w = some [.int v.1, .long v.2]) (hv : GV (sA σ) v) : CT G 9 205 mX9_give [.ref (aT A), .ref (nad Γ i), .ref w, .int (nI c)] M (RQ M A Γ (give σ i c v) γ (b + 1500)) := by
  have hl6 := (h.2.2.2.1 i _ (nd_at hi)).2.1
  have loop : ∀ (k j : Nat) (M' : hx_S) (σ' : hs_S) (γ' : hf_S) (b' : Nat), j + k = (nd σ i).2.2.length → Rep M' A Γ σ' γ' b' → b' + 250 * k ≤ b + 1500 → same9 σ σ' → gives σ' ((nd σ i).2.2.drop j) (fun _ => true) c v = give σ i c v → (gcd γ' = gcd γ ∧ gkl γ' = gkl γ) → XE A M M' → XW G 9 205 mX9_give [.ref (aT A), .ref (nad Γ i), .ref w, .int (nI c)] M (RQ M A Γ (give σ i c v) γ (b + 1500)) M' 3 [(4, .int (nI j)), (0, .ref (aT A)), (1, .ref (nad Γ i)), (2, .ref w), (3, .int (nI c))] [] := by
    intro k
    induction k with
    | zero =>
      intro j M' σ' γ' b' hjk hR hbb hs hg hcd hX
      have sN' := hs.1.1
      have hi' : i < (sN σ').length := by rw [sN']; exact hi
      have hnode := hR.2.1.node hi'
      obtain ⟨-, hro, ys, ⟨y, hy⟩, hyl, hya⟩ := hR.2.1.1.2.2 i _ (nd_at hi')
      rw [nd_cg sN'] at hyl
      refine xw_iload dX9_give_3 rfl ?_
      refine xw_aload_n dX9_give_5 rfl rfl ?_
      refine xw_get (ci := 7) (k := 6) (v := .ref (nar Γ i)) dX9_give_6 hnode rfl inX6 (by decide) tw_586 (Or.inl rfl) rfl ?_
      refine xw_callV (q2 := mJx4a65c_size_8abf5) (n2 := 0) (ci := 0) (Bs := []) (rest := [.int (nI j)]) (ct_size hy) dX9_give_9 rfl (q_at hy) rfl rfl tw_228 tw_229 tw_230 tw_43 tw_231 (by decide +kernel) rfl (Nat.le_of_ble_eq_true rfl) (Nat.le_of_ble_eq_true rfl) (Nat.le_of_ble_eq_true rfl) (fun rr M1 hr hle1 => ?_)
      obtain ⟨rfl, hM1⟩ := hr
      obtain rfl := hM1.symm
      refine xw_icmp_ge (tgt := 51) dX9_give_12 (by decide) (fun _ => ?_) (fun zz => absurd (nI_le (show ys.length ≤ j by omega) (by omega)) zz)
      rw [List.drop_of_length_le (by omega)] at hg
      rw [← hg]
      exact xw_vret rfl dX9_give_51 ⟨rfl, γ', hR.mono (by omega), hcd, hX⟩
    | succ k ih =>
      intro j M' σ' γ' b' hjk hR hbb hs hg hcd hX
      have q1 : b' + 250 ≤ 14400000 := ar1 hbb hb
      have sN' := hs.1.1
      have hi' : i < (sN σ').length := by rw [sN']; exact hi
      have hnode := hR.2.1.node hi'
      obtain ⟨-, hro, ys, ⟨y, hy⟩, hyl, hya⟩ := hR.2.1.1.2.2 i _ (nd_at hi')
      rw [nd_cg sN'] at hyl hya
      have hjl : j < ys.length := by omega
      have hja : j < (nd σ i).2.2.length := by omega
      obtain ⟨e, he⟩ : ∃ e, e = (nd σ i).2.2[j] := ⟨_, rfl⟩
      have hel : (nd σ i).2.2[j]? = some e := by rw [List.getElem?_eq_getElem hja, he]
      obtain ⟨a, ha⟩ : ∃ a, a = ys[j] := ⟨_, rfl⟩
      have hea : ys[j]? = some a := by rw [List.getElem?_eq_getElem hjl, ha]
      have hso := hya j a e hea hel
      have hmem : e ∈ (nd σ i).2.2 := List.mem_of_getElem? hel
      obtain ⟨g1, g2, g3⟩ := (h.2.2.2.1 i _ (nd_at hi)).2.2 e hmem
      have hcap := hR.2.1.2.2.2.2.2.2.cap (by omega) hy
      simp only at hcap
      refine xw_iload dX9_give_3 rfl ?_
      refine xw_aload_n dX9_give_5 rfl rfl ?_
      refine xw_get (ci := 7) (k := 6) (v := .ref (nar Γ i)) dX9_give_6 hnode rfl inX6 (by decide) tw_586 (Or.inl rfl) rfl ?_
      refine xw_callV (q2 := mJx4a65c_size_8abf5) (n2 := 0) (ci := 0) (Bs := []) (rest := [.int (nI j)]) (ct_size hy) dX9_give_9 rfl (q_at hy) rfl rfl tw_228 tw_229 tw_230 tw_43 tw_231 (by decide +kernel) rfl (Nat.le_of_ble_eq_true rfl) (Nat.le_of_ble_eq_true rfl) (Nat.le_of_ble_eq_true rfl) (fun rr M1 hr hle1 => ?_)
      obtain ⟨rfl, hM1⟩ := hr
      obtain rfl := hM1.symm
      refine xw_icmp_ge (tgt := 51) dX9_give_12 (by decide) (fun zz => absurd zz (nI_ge hjl (show ys.length < 2 ^ 31 by omega))) (fun _ => ?_)
      refine xw_aload_n dX9_give_15 rfl rfl ?_
      refine xw_get (ci := 7) (k := 6) (v := .ref (nar Γ i)) dX9_give_16 hnode rfl inX6 (by decide) tw_586 (Or.inl rfl) rfl ?_
      refine xw_iload dX9_give_19 rfl ?_
      refine xw_callV (q2 := mJx4a65c_get_915e3) (n2 := 1) (ci := 0) (Bs := [.int (nI j)]) (rest := []) (ct_get hy hjl (by show y.1 < 2 ^ 31; omega)) dX9_give_21 rfl (q_at hy) rfl rfl tw_232 tw_233 tw_234 tw_43 tw_235 (by decide +kernel) rfl (Nat.le_of_ble_eq_true rfl) (Nat.le_of_ble_eq_true rfl) (Nat.le_of_ble_eq_true rfl) (fun rr M1 hr hle1 => ?_)
      obtain ⟨rfl, hM1⟩ := hr
      obtain rfl := hM1.symm
      refine Eq.mp (congrArg (fun z => XW G 9 205 mX9_give [.ref (aT A), .ref (nad Γ i), .ref w, .int (nI c)] M _ _ _ _ [.ref z]) ha) ?_
      refine xw_cast (ci := 1) dX9_give_24 hso rfl tw_631 ?_
      refine xw_astore (L2 := [(5, .ref a), (4, .int (nI j)), (0, .ref (aT A)), (1, .ref (nad Γ i)), (2, .ref w), (3, .int (nI c))]) dX9_give_27 (by decide) rfl ?_
      refine xw_aload_n dX9_give_29 rfl rfl ?_
      refine xw_aload dX9_give_30 rfl ?_
      refine xw_get (ci := 1) (k := 1) (v := .ref (nad Γ e.2.1)) dX9_give_32 hso rfl inX0 (by decide) tw_269 (Or.inl rfl) rfl ?_
      refine xw_aload dX9_give_35 rfl ?_
      refine xw_get (ci := 1) (k := 2) (v := .int (nI e.2.2)) dX9_give_37 hso rfl inX0 (by decide) tw_271 (Or.inl rfl) rfl ?_
      refine xw_aload_n dX9_give_40 rfl rfl ?_
      refine xw_iload_n dX9_give_41 rfl rfl ?_
      refine xw_pc (pc2 := 42) rfl ?_
      have q2 : e.2.1 < (sN σ').length := by rw [sN']; exact g2
      have q3 : e.2.2 < pts σ' e.2.1 := by rw [pts_cg sN']; exact g3
      have q4 : c < (sC σ').length := by rw [hs.1.2.1]; exact hc
      have q5 : GV (sA σ') v := by rw [hs.1.2.2.1]; exact hv
      have hct := ct_come (G := G) (i := e.2.1) (p := e.2.2) (c := c) (w := w) (v := v) hR q1 q2 q3 q4 (hX.val hwv) q5
      refine xw_callV (q2 := mX9_come) (n2 := 4) (ci := 10) (Bs := [.ref (nad Γ e.2.1), .int (nI e.2.2), .ref w, .int (nI c)]) (rest := []) (hct) dX9_give_42 rfl (o_at hR.1) rfl rfl tw_345 tw_347 tw_4 tw_39 tw_348 (by decide +kernel) rfl (Nat.le_of_ble_eq_true rfl) (Nat.le_of_ble_eq_true rfl) (Nat.le_of_ble_eq_true rfl) (fun rr M1 hr hle1 => ?_)
      obtain ⟨rfl, γ1, hR1, hcd1, hX1⟩ := hr
      refine xw_iinc (v := (nI j) + 1) (L2 := [(4, .int ((nI j) + 1)), (5, .ref a), (0, .ref (aT A)), (1, .ref (nad Γ i)), (2, .ref w), (3, .int (nI c))]) dX9_give_45 rfl rfl (by decide) rfl ?_
      refine xw_goto (tgt := 3) dX9_give_48 (by decide) ?_
      rw [nI_1]
      refine xw_sub (L2 := [(4, .int (nI (j + 1))), (0, .ref (aT A)), (1, .ref (nad Γ i)), (2, .ref w), (3, .int (nI c))]) (.cons_cons _ (.cons _ (.cons_cons _ (.cons_cons _ (.cons_cons _ (.cons_cons _ .slnil)))))) ?_
      refine ih (j + 1) M1 _ γ1 (b' + 250) (by omega) hR1 (by omega) (hs.tr (come_same σ' _ _ _ _)) ?_ ⟨hcd1.1.trans hcd.1, hcd1.2.trans hcd.2⟩ (hX.tr hX1)
      rw [← hg, List.drop_eq_getElem_cons hja, ← he]
      rfl
  refine ct_go (by decide +kernel) (Nat.le_of_ble_eq_true rfl) (L := [(0, .ref (aT A)), (1, .ref (nad Γ i)), (2, .ref w), (3, .int (nI c))]) rfl ?_
  refine xw_iconst (v := 0) dX9_give_0 (by decide) ?_
  refine xw_istore (L2 := [(4, .int 0), (0, .ref (aT A)), (1, .ref (nad Γ i)), (2, .ref w), (3, .int (nI c))]) dX9_give_1 (by decide) rfl ?_
  exact xw_pc rfl (loop (nd σ i).2.2.length 0 M σ γ b (by omega) h (by omega) (same9.rf σ) rfl ⟨rfl, rfl⟩ (XE.rf _ _))
theorem ct_giveOnSide (h : Rep M A Γ σ γ b) (hb : b + 1500 ≤ 14400000) {i s c w : Nat} {v : V2} (hi : i < (sN σ).length) (hs2 : s ≤ 1) (hc : c < (sC σ).length) (hwv : So M 9 w = some [.int v.1, .long v.2]) (hv : GV (sA σ) v) : CT G 9 205 mX9_giveOnSide [.ref (aT A), .ref (nad Γ i), .int (nI s), .ref w, .int (nI c)] M (RQ M A Γ (giveS σ i s c v) γ (b + 250 * ((nd σ i).2.2.filter (fun a => a.1 == s)).length)) := by
  have hl6 := (h.2.2.2.1 i _ (nd_at hi)).2.1
  have hfl : ((nd σ i).2.2.filter (fun a => a.1 == s)).length ≤ 6 := Nat.le_trans (List.length_filter_le _ _) hl6
  have loop : ∀ (k j : Nat) (M' : hx_S) (σ' : hs_S) (γ' : hf_S) (b' : Nat), j + k = (nd σ i).2.2.length → Rep M' A Γ σ' γ' b' → b' + 250 * (((nd σ i).2.2.drop j).filter (fun a => a.1 == s)).length ≤ b + 250 * ((nd σ i).2.2.filter (fun a => a.1 == s)).length → same9 σ σ' → gives σ' ((nd σ i).2.2.drop j) (fun a => a.1 == s) c v = giveS σ i s c v → (gcd γ' = gcd γ ∧ gkl γ' = gkl γ) → XE A M M' → XW G 9 205 mX9_giveOnSide [.ref (aT A), .ref (nad Γ i), .int (nI s), .ref w, .int (nI c)] M (RQ M A Γ (giveS σ i s c v) γ (b + 250 * ((nd σ i).2.2.filter (fun a => a.1 == s)).length)) M' 3 [(5, .int (nI j)), (0, .ref (aT A)), (1, .ref (nad Γ i)), (2, .int (nI s)), (3, .ref w), (4, .int (nI c))] [] := by
    intro k
    induction k with
    | zero =>
      intro j M' σ' γ' b' hjk hR hbb hs hg hcd hX
      have sN' := hs.1.1
      have hi' : i < (sN σ').length := by rw [sN']; exact hi
      have hnode := hR.2.1.node hi'
      obtain ⟨-, hro, ys, ⟨y, hy⟩, hyl, hya⟩ := hR.2.1.1.2.2 i _ (nd_at hi')
      rw [nd_cg sN'] at hyl
      refine xw_iload dX9_giveOnSide_3 rfl ?_
      refine xw_aload_n dX9_giveOnSide_5 rfl rfl ?_
      refine xw_get (ci := 7) (k := 6) (v := .ref (nar Γ i)) dX9_giveOnSide_6 hnode rfl inX6 (by decide) tw_586 (Or.inl rfl) rfl ?_
      refine xw_callV (q2 := mJx4a65c_size_8abf5) (n2 := 0) (ci := 0) (Bs := []) (rest := [.int (nI j)]) (ct_size hy) dX9_giveOnSide_9 rfl (q_at hy) rfl rfl tw_228 tw_229 tw_230 tw_43 tw_231 (by decide +kernel) rfl (Nat.le_of_ble_eq_true rfl) (Nat.le_of_ble_eq_true rfl) (Nat.le_of_ble_eq_true rfl) (fun rr M1 hr hle1 => ?_)
      obtain ⟨rfl, hM1⟩ := hr
      obtain rfl := hM1.symm
      refine xw_icmp_ge (tgt := 61) dX9_giveOnSide_12 (by decide) (fun _ => ?_) (fun zz => absurd (nI_le (show ys.length ≤ j by omega) (by omega)) zz)
      rw [List.drop_of_length_le (by omega)] at hg
      rw [← hg]
      exact xw_vret rfl dX9_giveOnSide_61 ⟨rfl, γ', hR.mono (by omega), hcd, hX⟩
    | succ k ih =>
      intro j M' σ' γ' b' hjk hR hbb hs hg hcd hX
      have sN' := hs.1.1
      have hi' : i < (sN σ').length := by rw [sN']; exact hi
      have hnode := hR.2.1.node hi'
      obtain ⟨-, hro, ys, ⟨y, hy⟩, hyl, hya⟩ := hR.2.1.1.2.2 i _ (nd_at hi')
      rw [nd_cg sN'] at hyl hya
      have hjl : j < ys.length := by omega
      have hja : j < (nd σ i).2.2.length := by omega
      obtain ⟨e, he⟩ : ∃ e, e = (nd σ i).2.2[j] := ⟨_, rfl⟩
      have hel : (nd σ i).2.2[j]? = some e := by rw [List.getElem?_eq_getElem hja, he]
      obtain ⟨a, ha⟩ : ∃ a, a = ys[j] := ⟨_, rfl⟩
      have hea : ys[j]? = some a := by rw [List.getElem?_eq_getElem hjl, ha]
      have hso := hya j a e hea hel
      have hmem : e ∈ (nd σ i).2.2 := List.mem_of_getElem? hel
      obtain ⟨g1, g2, g3⟩ := (h.2.2.2.1 i _ (nd_at hi)).2.2 e hmem
      have hdr : (nd σ i).2.2.drop j = e :: (nd σ i).2.2.drop (j + 1) := by rw [List.drop_eq_getElem_cons hja, ← he]
      rw [hdr] at hbb hg
      have hcap := hR.2.1.2.2.2.2.2.2.cap (by omega) hy
      simp only at hcap
      refine xw_iload dX9_giveOnSide_3 rfl ?_
      refine xw_aload_n dX9_giveOnSide_5 rfl rfl ?_
      refine xw_get (ci := 7) (k := 6) (v := .ref (nar Γ i)) dX9_giveOnSide_6 hnode rfl inX6 (by decide) tw_586 (Or.inl rfl) rfl ?_
      refine xw_callV (q2 := mJx4a65c_size_8abf5) (n2 := 0) (ci := 0) (Bs := []) (rest := [.int (nI j)]) (ct_size hy) dX9_giveOnSide_9 rfl (q_at hy) rfl rfl tw_228 tw_229 tw_230 tw_43 tw_231 (by decide +kernel) rfl (Nat.le_of_ble_eq_true rfl) (Nat.le_of_ble_eq_true rfl) (Nat.le_of_ble_eq_true rfl) (fun rr M1 hr hle1 => ?_)
      obtain ⟨rfl, hM1⟩ := hr
      obtain rfl := hM1.symm
      refine xw_icmp_ge (tgt := 61) dX9_giveOnSide_12 (by decide) (fun zz => absurd zz (nI_ge hjl (show ys.length < 2 ^ 31 by omega))) (fun _ => ?_)
      refine xw_aload_n dX9_giveOnSide_15 rfl rfl ?_
      refine xw_get (ci := 7) (k := 6) (v := .ref (nar Γ i)) dX9_giveOnSide_16 hnode rfl inX6 (by decide) tw_586 (Or.inl rfl) rfl ?_
      refine xw_iload dX9_giveOnSide_19 rfl ?_
      refine xw_pc (pc2 := 21) rfl ?_
      refine xw_callV (q2 := mJx4a65c_get_915e3) (n2 := 1) (ci := 0) (Bs := [.int (nI j)]) (rest := []) (ct_get hy hjl (by show y.1 < 2 ^ 31; omega)) dX9_giveOnSide_21 rfl (q_at hy) rfl rfl tw_232 tw_233 tw_234 tw_43 tw_235 (by decide +kernel) rfl (Nat.le_of_ble_eq_true rfl) (Nat.le_of_ble_eq_true rfl) (Nat.le_of_ble_eq_true rfl) (fun rr M1 hr hle1 => ?_)
      obtain ⟨rfl, hM1⟩ := hr
      obtain rfl := hM1.symm
      refine Eq.mp (congrArg (fun z => XW G 9 205 mX9_giveOnSide [.ref (aT A), .ref (nad Γ i), .int (nI s), .ref w, .int (nI c)] M _ _ _ _ [.ref z]) ha) ?_
      refine xw_cast (ci := 1) dX9_giveOnSide_24 hso rfl tw_631 ?_
      refine xw_astore (L2 := [(6, .ref a), (5, .int (nI j)), (0, .ref (aT A)), (1, .ref (nad Γ i)), (2, .int (nI s)), (3, .ref w), (4, .int (nI c))]) dX9_giveOnSide_27 (by decide) rfl ?_
      refine xw_aload dX9_giveOnSide_29 rfl ?_
      refine xw_get (ci := 1) (k := 0) (v := .int (nI e.1)) dX9_giveOnSide_31 hso rfl inX0 (by decide) tw_267 (Or.inl rfl) rfl ?_
      refine xw_iload_n dX9_giveOnSide_34 rfl rfl ?_
      refine xw_icmp_ne (tgt := 55) dX9_giveOnSide_35 (by decide) (fun c1 => ?_) (fun c1 => ?_)
      · have hne : ¬ e.1 = s := fun z => c1 (by rw [z])
        rw [List.filter_cons_of_neg (by simp [hne])] at hbb
        refine xw_iinc (v := (nI j) + 1) (L2 := [(5, .int ((nI j) + 1)), (6, .ref a), (0, .ref (aT A)), (1, .ref (nad Γ i)), (2, .int (nI s)), (3, .ref w), (4, .int (nI c))]) dX9_giveOnSide_55 rfl rfl (by decide) rfl ?_
        refine xw_goto (tgt := 3) dX9_giveOnSide_58 (by decide) ?_
        rw [nI_1]
        refine xw_sub (L2 := [(5, .int (nI (j + 1))), (0, .ref (aT A)), (1, .ref (nad Γ i)), (2, .int (nI s)), (3, .ref w), (4, .int (nI c))]) (.cons_cons _ (.cons _ (.cons_cons _ (.cons_cons _ (.cons_cons _ (.cons_cons _ (.cons_cons _ .slnil))))))) ?_
        refine ih (j + 1) M' σ' γ' b' (by omega) hR hbb hs ?_ hcd hX
        rw [← hg]
        show _ = gives (if (e.1 == s) = true then _ else σ') _ _ c v
        rw [if_neg (by simp [hne])]
      · have heq : e.1 = s := (nI_eq (by omega) (by omega)).mp c1
        rw [List.filter_cons_of_pos (by simp [heq]), List.length_cons] at hbb
        have q1 : b' + 250 ≤ 14400000 := ar2 hbb hfl hb
        refine xw_aload_n dX9_giveOnSide_38 rfl rfl ?_
        refine xw_aload dX9_giveOnSide_39 rfl ?_
        refine xw_get (ci := 1) (k := 1) (v := .ref (nad Γ e.2.1)) dX9_giveOnSide_41 hso rfl inX0 (by decide) tw_269 (Or.inl rfl) rfl ?_
        refine xw_aload dX9_giveOnSide_44 rfl ?_
        refine xw_get (ci := 1) (k := 2) (v := .int (nI e.2.2)) dX9_giveOnSide_46 hso rfl inX0 (by decide) tw_271 (Or.inl rfl) rfl ?_
        refine xw_aload_n dX9_giveOnSide_49 rfl rfl ?_
        refine xw_iload dX9_giveOnSide_50 rfl ?_
        refine xw_pc (pc2 := 52) rfl ?_
        have q2 : e.2.1 < (sN σ').length := by rw [sN']; exact g2
        have q3 : e.2.2 < pts σ' e.2.1 := by rw [pts_cg sN']; exact g3
        have q4 : c < (sC σ').length := by rw [hs.1.2.1]; exact hc
        have q5 : GV (sA σ') v := by rw [hs.1.2.2.1]; exact hv
        have hct := ct_come (G := G) (i := e.2.1) (p := e.2.2) (c := c) (w := w) (v := v) hR q1 q2 q3 q4 (hX.val hwv) q5
        refine xw_callV (q2 := mX9_come) (n2 := 4) (ci := 10) (Bs := [.ref (nad Γ e.2.1), .int (nI e.2.2), .ref w, .int (nI c)]) (rest := []) (hct) dX9_giveOnSide_52 rfl (o_at hR.1) rfl rfl tw_345 tw_347 tw_4 tw_39 tw_348 (by decide +kernel) rfl (Nat.le_of_ble_eq_true rfl) (Nat.le_of_ble_eq_true rfl) (Nat.le_of_ble_eq_true rfl) (fun rr M1 hr hle1 => ?_)
        obtain ⟨rfl, γ1, hR1, hcd1, hX1⟩ := hr
        refine xw_iinc (v := (nI j) + 1) (L2 := [(5, .int ((nI j) + 1)), (6, .ref a), (0, .ref (aT A)), (1, .ref (nad Γ i)), (2, .int (nI s)), (3, .ref w), (4, .int (nI c))]) dX9_giveOnSide_55 rfl rfl (by decide) rfl ?_
        refine xw_goto (tgt := 3) dX9_giveOnSide_58 (by decide) ?_
        rw [nI_1]
        refine xw_sub (L2 := [(5, .int (nI (j + 1))), (0, .ref (aT A)), (1, .ref (nad Γ i)), (2, .int (nI s)), (3, .ref w), (4, .int (nI c))]) (.cons_cons _ (.cons _ (.cons_cons _ (.cons_cons _ (.cons_cons _ (.cons_cons _ (.cons_cons _ .slnil))))))) ?_
        refine ih (j + 1) M1 _ γ1 (b' + 250) (by omega) hR1 (by omega) (hs.tr (come_same σ' _ _ _ _)) ?_ ⟨hcd1.1.trans hcd.1, hcd1.2.trans hcd.2⟩ (hX.tr hX1)
        rw [← hg]
        show _ = gives (if (e.1 == s) = true then _ else σ') _ _ c v
        rw [if_pos (by simp [heq])]
  refine ct_go (by decide +kernel) (Nat.le_of_ble_eq_true rfl) (L := [(0, .ref (aT A)), (1, .ref (nad Γ i)), (2, .int (nI s)), (3, .ref w), (4, .int (nI c))]) rfl ?_
  refine xw_iconst (v := 0) dX9_giveOnSide_0 (by decide) ?_
  refine xw_istore (L2 := [(5, .int 0), (0, .ref (aT A)), (1, .ref (nad Γ i)), (2, .int (nI s)), (3, .ref w), (4, .int (nI c))]) dX9_giveOnSide_1 (by decide) rfl ?_
  exact xw_pc rfl (loop (nd σ i).2.2.length 0 M σ γ b (by omega) h (by rw [List.drop_zero]; omega) (same9.rf σ) rfl ⟨rfl, rfl⟩ (XE.rf _ _))
end GIVE
