/-! THE REFERENCE: reckon -/
section RECKON2
variable {G : hx_G} {M M1 : hx_S} {m : Nat} {B : Nat → Nat} {ρ ρ' : hr_S} {σ σ' : hs_S} {T : List TK} {i c p s na k : Nat} {v x y : V2} {th : Int32} {K : Nat → Int32} {V : Nat → Int64}
/-- an error, and which -/
def isE (v : V2) (k : Nat) : Prop := v.1 = 1 ∧ v.2 = lN k ∧ 1 ≤ k ∧ k ≤ 4
theorem GV.cases (h : GV na v) : v.1 = 0 ∨ (∃ k, isE v k) ∨ v.1 = 2 := by
  rcases h with h | ⟨h, k, h1, h2, h3⟩ | h
  · exact Or.inl h
  · exact Or.inr (Or.inl ⟨k, h, h3, h1, h2⟩)
  · exact Or.inr (Or.inr h.1)
theorem er1_E {e : Nat} (h : isE v k) : er1 e v = if e = 0 ∨ k < e then k else e := by
  unfold er1
  rw [h.2.1, lN_clamp (by have := h.2.2.2; omega)]
  by_cases z : e = 0 ∨ k < e
  · rw [if_pos ⟨h.1, z⟩, if_pos z]
  · rw [if_neg (fun w => z w.2), if_neg z]
theorem er1_N {e : Nat} (h : ¬ v.1 = 1) : er1 e v = e := by unfold er1; rw [if_neg (fun z => h z.1)]
theorem errOf_E {w : Nat} (hw : w ≠ 0) (h : isE v k) : errOf v w = k := by unfold errOf; rw [if_neg hw, if_pos h.1, h.2.1, lN_clamp (by have := h.2.2.2; omega)]
theorem errOf_N {w : Nat} (hw : w ≠ 0) (h : ¬ v.1 = 1) : 4 ≤ errOf v w := by
  unfold errOf
  rw [if_neg hw, if_neg h]
  split
  · exact Nat.le_refl _
  · split
    · exact Nat.le_refl _
    · decide
/-- the least of the errors, if there is one -/
theorem er_A {w u : Nat} (hw : w ≠ 0) (hu : u ≠ 0) (hx : GV na x) (hy : GV na y) (h : x.1 = 1 ∨ y.1 = 1) : er1 (er1 0 x) y = min (errOf x w) (errOf y u) ∧ 1 ≤ er1 (er1 0 x) y ∧ er1 (er1 0 x) y ≤ 4 := by
  have hb := er1_b (er1_b (e := 0) (by decide) hx) hy
  rcases hx.cases with hx0 | ⟨a, ha⟩ | hx2
  · have x1 : ¬ x.1 = 1 := by rw [hx0]; decide
    rcases hy.cases with hy0 | ⟨b, hb'⟩ | hy2
    · exact absurd (h.resolve_left x1) (by rw [hy0]; decide)
    · have := errOf_N hw x1
      obtain ⟨-, -, b1, b2⟩ := id hb'
      rw [er1_N x1, er1_E hb', if_pos (Or.inl rfl), errOf_E hu hb']
      omega
    · exact absurd (h.resolve_left x1) (by rw [hy2]; decide)
  · obtain ⟨-, -, a1, a2⟩ := id ha
    rw [er1_E ha, if_pos (Or.inl rfl), errOf_E hw ha]
    by_cases y1 : y.1 = 1
    · rcases hy.cases with z | ⟨b, hb'⟩ | z
      · rw [z] at y1; exact absurd y1 (by decide)
      · obtain ⟨-, -, b1, b2⟩ := id hb'
        rw [er1_E hb', errOf_E hu hb']
        by_cases z : a = 0 ∨ b < a
        · rw [if_pos z]; omega
        · rw [if_neg z]; omega
      · rw [z] at y1; exact absurd y1 (by decide)
    · have := errOf_N hu y1
      rw [er1_N y1]
      omega
  · have x1 : ¬ x.1 = 1 := by rw [hx2]; decide
    rcases hy.cases with hy0 | ⟨b, hb'⟩ | hy2
    · exact absurd (h.resolve_left x1) (by rw [hy0]; decide)
    · have := errOf_N hw x1
      obtain ⟨-, -, b1, b2⟩ := id hb'
      rw [er1_N x1, er1_E hb', if_pos (Or.inl rfl), errOf_E hu hb']
      omega
    · exact absurd (h.resolve_left x1) (by rw [hy2]; decide)
theorem wXY0 : ∀ o, o < 6 → 1 ≤ o → wX o = 2 ∧ wY o = 2 := by decide +kernel
theorem wXY (o : Nat) (h : 1 ≤ o) (h2 : o ≤ 5) : wX o = 2 ∧ wY o = 2 := wXY0 o (by omega) h
theorem errOf_2 (h : ¬ v.1 = 1) : errOf v 2 = if v.1 = 0 then 5 else 4 := by
  unfold errOf
  rw [if_neg (by decide), if_neg h]
  by_cases z : v.1 = 0
  · rw [if_neg (fun w => w.2 z), if_neg (fun w => absurd w.1 (by decide)), if_pos z]
  · rw [if_pos ⟨rfl, z⟩, if_neg z]
theorem ct_mreckon (h : RM M m B σ th K V) (hG : GS σ) (hN : GN σ) (hi : i < (sN σ).length) (hc : c < (sC σ).length) (ho : 1 ≤ (nd σ i).1 ∧ (nd σ i).1 ≤ 5) (hx : GV (sA σ) x) (hy : GV (sA σ) y) (k0 : K 0 = x.1 ∧ V 0 = x.2) (k1 : K 1 = y.1 ∧ V 1 = y.2) : CT G 5 126 mX10_reckon [.ref m, .int (nI i), .int (nI c)] M (fun r M1 => r = none ∧ RM M1 m B (give σ i c (rk (nd σ i).1 (nd σ i).2.1 x y)) th K V ∧ EF M M1 m B) := by
  obtain ⟨P, hP⟩ : ∃ P : Option Value → hx_S → Prop, P = (fun r M1 => r = none ∧ RM M1 m B (give σ i c (rk (nd σ i).1 (nd σ i).2.1 x y)) th K V ∧ EF M M1 m B) := ⟨_, rfl⟩
  rw [← hP]
  obtain ⟨ρ, T, hR, h0, hAb, -⟩ := id h
  have h40 := hG.1
  have in0 : vp_in (nI 0) 3 := vp_in_nI (by decide) (by decide)
  have in1 : vp_in (nI 1) 3 := vp_in_nI (by decide) (by decide)
  have ini : vp_in (nI i) 40 := vp_in_nI (by omega) (by decide)
  have i31 : i < 2 ^ 31 := by omega
  obtain ⟨n1, n2, -⟩ := hAb.1.2 i _ (nd_at hi)
  obtain ⟨wx, wy⟩ := wXY _ ho.1 ho.2
  have s0 : ∀ w, gives σ (nd σ i).2.2 (fS 0) c w = give σ i c w := fun w => send_0 hN hi (by omega)
  have kk0 : ρ.2.1 39 0 = x.1 ∧ ρ.2.2 40 0 = x.2 := by rw [h0.2.1, h0.2.2]; exact k0
  have kk1 : ρ.2.1 39 1 = y.1 ∧ ρ.2.2 40 1 = y.2 := by rw [h0.2.1, h0.2.2]; exact k1
  -- an error goes out
  have bad : ∀ e : Nat, 1 ≤ e → e ≤ 4 → rk (nd σ i).1 (nd σ i).2.1 x y = (1, lN e) → XW G 5 126 mX10_reckon [.ref m, .int (nI i), .int (nI c)] M P M 59 [(3, .int (nI e)), (0, .ref m), (1, .int (nI i)), (2, .int (nI c))] [] := by
    intro e b1 b2 hrk
    refine xw_iload_n dX10_reckon_59 rfl rfl ?_
    refine xw_if_le (tgt := 71) dX10_reckon_60 (by decide) (fun zz => absurd zz (show ¬ nI e ≤ nI 0 from nI_ge (by omega) (by omega))) (fun _ => ?_)
    refine xw_aload_n dX10_reckon_63 rfl rfl ?_
    refine xw_iload_n dX10_reckon_64 rfl rfl ?_
    refine xw_iload_n dX10_reckon_65 rfl rfl ?_
    refine xw_iload_n dX10_reckon_66 rfl rfl ?_
    refine xw_callV (q2 := mX10_sendError) (n2 := 3) (ci := 11) (Bs := [.int (nI i), .int (nI c), .int (nI e)]) (rest := []) (ct_msendError h hG hi hc ⟨b1, b2⟩) dX10_reckon_67 rfl (o_at hR.1) rfl rfl tw_981 tw_983 tw_28 tw_47 tw_984 (by decide +kernel) rfl (Nat.le_of_ble_eq_true rfl) (Nat.le_of_ble_eq_true rfl) (Nat.le_of_ble_eq_true rfl) (fun rr M1 hr hle1 => ?_)
    obtain ⟨rfl, hR1, hE1⟩ := hr
    rw [s0] at hR1
    rw [hP, hrk]
    exact xw_vret rfl dX10_reckon_70 ⟨rfl, hR1, hE1⟩
  -- a number goes out
  have good : ∀ (r : Int64) (L : List (Nat × Value)), rk (nd σ i).1 (nd σ i).2.1 x y = (0, r) → XW G 5 126 mX10_reckon [.ref m, .int (nI i), .int (nI c)] M P M 194 [(8, .long r), (0, .ref m), (1, .int (nI i)), (2, .int (nI c))] [] := by
    intro r L hrk
    refine xw_aload_n dX10_reckon_194 rfl rfl ?_
    refine xw_iload_n dX10_reckon_195 rfl rfl ?_
    refine xw_iconst (v := 0) dX10_reckon_196 (by decide) ?_
    refine xw_iload_n dX10_reckon_197 rfl rfl ?_
    refine xw_iconst (v := 0) dX10_reckon_198 (by decide) ?_
    refine xw_lload dX10_reckon_199 rfl ?_
    have q1 := ct_msend (G := G) (i := i) (s := 0) (c := c) (v := ((0 : Int32), r)) h hG hi hc (by decide) (Or.inl rfl)
    refine xw_callV (q2 := mX10_send) (n2 := 5) (ci := 11) (Bs := [.int (nI i), .int (nI 0), .int (nI c), .int 0, .long r]) (rest := []) (q1) dX10_reckon_201 rfl (o_at hR.1) rfl rfl tw_969 tw_971 tw_25 tw_47 tw_972 (by decide +kernel) rfl (Nat.le_of_ble_eq_true rfl) (Nat.le_of_ble_eq_true rfl) (Nat.le_of_ble_eq_true rfl) (fun rr M1 hr hle1 => ?_)
    obtain ⟨rfl, hR1, hE1⟩ := hr
    rw [s0] at hR1
    rw [hP, hrk]
    exact xw_vret rfl dX10_reckon_204 ⟨rfl, hR1, hE1⟩
  have q0 := ct_merrorOf (G := G) (n := 2) hR (Or.inr rfl) hx (fun _ => hy) kk0 (fun _ => kk1)
  rw [if_pos rfl] at q0
  refine ct_go (by decide +kernel) (Nat.le_of_ble_eq_true rfl) (L := [(0, .ref m), (1, .int (nI i)), (2, .int (nI c))]) rfl ?_
  refine xw_aload_n dX10_reckon_0 rfl rfl ?_
  refine xw_iconst (v := 2) dX10_reckon_1 (by decide) ?_
  refine xw_pc (pc2 := 2) rfl ?_
  refine xw_callV (q2 := mX10_errorOf) (n2 := 1) (ci := 11) (Bs := [.int (nI 2)]) (rest := []) (q0) dX10_reckon_2 rfl (o_at hR.1) rfl rfl tw_977 tw_979 tw_27 tw_47 tw_980 (by decide +kernel) rfl (Nat.le_of_ble_eq_true rfl) (Nat.le_of_ble_eq_true rfl) (Nat.le_of_ble_eq_true rfl) (fun rr M1 hr hle1 => ?_)
  obtain ⟨rfl, hM1⟩ := hr
  obtain rfl := hM1.symm
  by_cases hA : x.1 = 1 ∨ y.1 = 1
  · obtain ⟨hmin, b1, b2⟩ := er_A (w := 2) (u := 2) (by decide) (by decide) hx hy hA
    have herr : errs (nd σ i).1 x y = er1 (er1 0 x) y := by unfold errs; rw [wx, wy, hmin]
    have hrk : rk (nd σ i).1 (nd σ i).2.1 x y = (1, lN (er1 (er1 0 x) y)) := by unfold rk; rw [herr, if_pos (by omega)]
    have ne0 : ¬ nI (er1 (er1 0 x) y) = nI 0 := fun z => by have := (nI_eq (by omega) (by decide)).mp z; omega
    refine xw_istore_n (L2 := [(3, .int (nI (er1 (er1 0 x) y))), (0, .ref m), (1, .int (nI i)), (2, .int (nI c))]) dX10_reckon_5 rfl (by decide) rfl ?_
    refine xw_iload_n dX10_reckon_6 rfl rfl ?_
    refine xw_if_ne (tgt := 32) dX10_reckon_7 (by decide) (fun _ => ?_) (fun zz => absurd zz ne0)
    refine xw_iload_n dX10_reckon_32 rfl rfl ?_
    refine xw_if_ne (tgt := 59) dX10_reckon_33 (by decide) (fun _ => ?_) (fun zz => absurd zz ne0)
    exact xw_pc rfl (bad _ b1 b2 hrk)
  · have x1 : ¬ x.1 = 1 := fun z => hA (Or.inl z)
    have y1 : ¬ y.1 = 1 := fun z => hA (Or.inr z)
    have e0 : er1 (er1 0 x) y = 0 := by rw [er1_N y1, er1_N x1]
    rw [e0]
    have herr0 : errs (nd σ i).1 x y = min (if x.1 = 0 then 5 else 4) (if y.1 = 0 then 5 else 4) := by unfold errs; rw [wx, wy, errOf_2 x1, errOf_2 y1]
    have four : x.1 = 2 ∨ y.1 = 2 → XW G 5 126 mX10_reckon [.ref m, .int (nI i), .int (nI c)] M P M 30 [(3, .int (nI 0)), (0, .ref m), (1, .int (nI i)), (2, .int (nI c))] [] := by
      intro h2
      have herr : errs (nd σ i).1 x y = 4 := by
        rw [herr0]
        rcases h2 with z | z
        · rw [if_neg (by rw [z]; decide)]; split <;> rfl
        · rw [if_neg (c := y.1 = 0) (by rw [z]; decide)]; split <;> rfl
      refine xw_iconst (v := 4) dX10_reckon_30 (by decide) ?_
      refine xw_istore_n (L2 := [(3, .int 4), (0, .ref m), (1, .int (nI i)), (2, .int (nI c))]) dX10_reckon_31 rfl (by decide) rfl ?_
      refine xw_iload_n dX10_reckon_32 rfl rfl ?_
      refine xw_if_ne (tgt := 59) dX10_reckon_33 (by decide) (fun _ => ?_) (fun zz => absurd zz (by decide))
      exact xw_pc rfl (bad 4 (by decide) (by decide) (by unfold rk; rw [herr]; rfl))
    -- both are numbers
    have nums : x.1 = 0 → y.1 = 0 → XW G 5 126 mX10_reckon [.ref m, .int (nI i), .int (nI c)] M P M 32 [(3, .int (nI 0)), (0, .ref m), (1, .int (nI i)), (2, .int (nI c))] [] := by
      intro hx0 hy0
      have herr : errs (nd σ i).1 x y = 5 := by rw [herr0, if_pos hx0, if_pos hy0]; rfl
      have hrk : rk (nd σ i).1 (nd σ i).2.1 x y = reck (nd σ i).1 (nd σ i).2.1 x y := by unfold rk; rw [if_neg (fun z => z herr)]
      have go : ¬ ((nd σ i).1 = 4 ∧ y.2 = 0) → XW G 5 126 mX10_reckon [.ref m, .int (nI i), .int (nI c)] M P M 59 [(3, .int (nI 0)), (0, .ref m), (1, .int (nI i)), (2, .int (nI c))] [] := by
        intro hnz
        refine xw_iload_n dX10_reckon_59 rfl rfl ?_
        refine xw_if_le (tgt := 71) dX10_reckon_60 (by decide) (fun _ => ?_) (fun zz => absurd (by decide) zz)
        refine xw_aload_n dX10_reckon_71 rfl rfl ?_
        refine xw_get (ci := 11) (k := 40) (v := .ref (B 40)) dX10_reckon_72 hR.1 rfl inX10 (by decide) tw_831 (Or.inl rfl) rfl ?_
        refine xw_iconst (v := 0) dX10_reckon_75 (by decide) ?_
        refine xw_lald dX10_reckon_76 (hR.2.2.1 40 rfl) in0 ?_
        rw [cl0]
        rw [kk0.2]
        refine xw_lstore (L2 := [(4, .long x.2), (3, .int (nI 0)), (0, .ref m), (1, .int (nI i)), (2, .int (nI c))]) dX10_reckon_77 (by decide) rfl ?_
        refine xw_aload_n dX10_reckon_79 rfl rfl ?_
        refine xw_get (ci := 11) (k := 40) (v := .ref (B 40)) dX10_reckon_80 hR.1 rfl inX10 (by decide) tw_831 (Or.inl rfl) rfl ?_
        refine xw_iconst (v := 1) dX10_reckon_83 (by decide) ?_
        refine xw_pc (pc2 := 84) rfl ?_
        refine xw_lald dX10_reckon_84 (hR.2.2.1 40 rfl) in1 ?_
        rw [cl1]
        rw [kk1.2]
        refine xw_lstore (L2 := [(6, .long y.2), (4, .long x.2), (3, .int (nI 0)), (0, .ref m), (1, .int (nI i)), (2, .int (nI c))]) dX10_reckon_85 (by decide) rfl ?_
        refine xw_aload_n dX10_reckon_87 rfl rfl ?_
        refine xw_get (ci := 11) (k := 2) (v := .ref (B 2)) dX10_reckon_88 hR.1 rfl inX10 (by decide) tw_793 (Or.inl rfl) rfl ?_
        refine xw_iload_n dX10_reckon_91 rfl rfl ?_
        refine xw_iald dX10_reckon_92 (hR.2.1 2 rfl) ini ?_
        rw [nI_clamp i31]
        rw [n1]
        rcases (show (nd σ i).1 = 1 ∨ (nd σ i).1 = 2 ∨ (nd σ i).1 = 3 ∨ (nd σ i).1 = 4 ∨ (nd σ i).1 = 5 by omega) with e | e | e | e | e
        · rw [show nI (nd σ i).1 = nI 1 from congrArg nI e]
          refine xw_tableIn (off := 31) (tgt := 124) dX10_reckon_93 (by decide +kernel) (by decide +kernel) (by decide +kernel) rfl ?_
          refine xw_lload dX10_reckon_124 rfl ?_
          refine xw_lload dX10_reckon_126 rfl ?_
          refine xw_ladd dX10_reckon_128 ?_
          refine xw_lstore (L2 := [(8, .long (x.2 + y.2)), (6, .long y.2), (4, .long x.2), (3, .int (nI 0)), (0, .ref m), (1, .int (nI i)), (2, .int (nI c))]) dX10_reckon_129 (by decide) rfl ?_
          refine xw_goto (tgt := 194) dX10_reckon_131 (by decide) ?_
          refine xw_mem (L2 := [(8, .long (x.2 + y.2)), (0, .ref m), (1, .int (nI i)), (2, .int (nI c))]) (by simp) ?_
          exact xw_pc rfl (good _ [] (by rw [hrk, e]; rfl))
        · rw [show nI (nd σ i).1 = nI 2 from congrArg nI e]
          refine xw_tableIn (off := 41) (tgt := 134) dX10_reckon_93 (by decide +kernel) (by decide +kernel) (by decide +kernel) rfl ?_
          refine xw_lload dX10_reckon_134 rfl ?_
          refine xw_lload dX10_reckon_136 rfl ?_
          refine xw_lsub dX10_reckon_138 ?_
          refine xw_lstore (L2 := [(8, .long (x.2 - y.2)), (6, .long y.2), (4, .long x.2), (3, .int (nI 0)), (0, .ref m), (1, .int (nI i)), (2, .int (nI c))]) dX10_reckon_139 (by decide) rfl ?_
          refine xw_goto (tgt := 194) dX10_reckon_141 (by decide) ?_
          refine xw_pc (pc2 := 194) rfl ?_
          refine xw_mem (L2 := [(8, .long (x.2 - y.2)), (0, .ref m), (1, .int (nI i)), (2, .int (nI c))]) (by simp) ?_
          exact xw_pc rfl (good _ [] (by rw [hrk, e]; rfl))
        · rw [show nI (nd σ i).1 = nI 3 from congrArg nI e]
          refine xw_tableIn (off := 51) (tgt := 144) dX10_reckon_93 (by decide +kernel) (by decide +kernel) (by decide +kernel) rfl ?_
          refine xw_lload dX10_reckon_144 rfl ?_
          refine xw_lload dX10_reckon_146 rfl ?_
          refine xw_lmul dX10_reckon_148 ?_
          refine xw_lstore (L2 := [(8, .long (x.2 * y.2)), (6, .long y.2), (4, .long x.2), (3, .int (nI 0)), (0, .ref m), (1, .int (nI i)), (2, .int (nI c))]) dX10_reckon_149 (by decide) rfl ?_
          refine xw_goto (tgt := 194) dX10_reckon_151 (by decide) ?_
          refine xw_mem (L2 := [(8, .long (x.2 * y.2)), (0, .ref m), (1, .int (nI i)), (2, .int (nI c))]) (by simp) ?_
          exact xw_pc rfl (good _ [] (by rw [hrk, e]; rfl))
        · have hz : ¬ y.2 = 0 := fun z => hnz ⟨e, z⟩
          have hrd : reck (nd σ i).1 (nd σ i).2.1 x y = (0, x.2 / y.2) := by rw [e]; unfold reck; rw [if_neg (by decide), if_neg (by decide), if_neg (by decide), if_pos rfl, if_neg hz]
          rw [show nI (nd σ i).1 = nI 4 from congrArg nI e]
          refine xw_tableIn (off := 61) (tgt := 154) dX10_reckon_93 (by decide +kernel) (by decide +kernel) (by decide +kernel) rfl ?_
          refine xw_lload dX10_reckon_154 rfl ?_
          refine xw_ldc2 (v := (-1)) tw_985 dX10_reckon_156 ?_
          refine xw_lcmp dX10_reckon_159 ?_
          refine xw_if_ne (tgt := 169) dX10_reckon_160 (by decide) (fun d5 => ?_) (fun d5 => ?_)
          · have hm : ¬ y.2 = -1 := fun z => d5 ((lg_cmp_eq _ _).mpr z)
            refine xw_lload dX10_reckon_169 rfl ?_
            refine xw_lload dX10_reckon_171 rfl ?_
            refine xw_ldiv dX10_reckon_173 hz ?_
            refine xw_lstore (L2 := [(8, .long (x.2 / y.2)), (6, .long y.2), (4, .long x.2), (3, .int (nI 0)), (0, .ref m), (1, .int (nI i)), (2, .int (nI c))]) dX10_reckon_174 (by decide) rfl ?_
            refine xw_goto (tgt := 194) dX10_reckon_176 (by decide) ?_
            refine xw_mem (L2 := [(8, .long (x.2 / y.2)), (0, .ref m), (1, .int (nI i)), (2, .int (nI c))]) (by simp) ?_
            exact xw_pc rfl (good _ [] (by rw [hrk, hrd]))
          · have hm : y.2 = -1 := (lg_cmp_eq _ _).mp d5
            refine xw_lload dX10_reckon_163 rfl ?_
            refine xw_lneg dX10_reckon_165 ?_
            refine xw_goto (tgt := 174) dX10_reckon_166 (by decide) ?_
            refine xw_lstore (L2 := [(8, .long (-x.2)), (6, .long y.2), (4, .long x.2), (3, .int (nI 0)), (0, .ref m), (1, .int (nI i)), (2, .int (nI c))]) dX10_reckon_174 (by decide) rfl ?_
            refine xw_goto (tgt := 194) dX10_reckon_176 (by decide) ?_
            refine xw_pc (pc2 := 194) rfl ?_
            refine xw_mem (L2 := [(8, .long (-x.2)), (0, .ref m), (1, .int (nI i)), (2, .int (nI c))]) (by simp) ?_
            exact xw_pc rfl (good _ [] (by rw [hrk, hrd, div_m1, hm]))
        · have hrd : reck (nd σ i).1 (nd σ i).2.1 x y = (0, if x.2 < y.2 then 1 else 0) := by rw [e]; rfl
          rw [show nI (nd σ i).1 = nI 5 from congrArg nI e]
          refine xw_tableOut (tgt := 179) dX10_reckon_93 (Or.inr (by decide +kernel)) rfl ?_
          refine xw_lload dX10_reckon_179 rfl ?_
          refine xw_lload dX10_reckon_181 rfl ?_
          refine xw_lcmp dX10_reckon_183 ?_
          refine xw_if_ge (tgt := 191) dX10_reckon_184 (by decide) (fun d5 => ?_) (fun d5 => ?_)
          · have hl : ¬ x.2 < y.2 := fun z => absurd ((lg_cmp_ge _ _).mp d5) (by rw [Int64.not_le]; exact z)
            refine xw_lconst (v := 0) dX10_reckon_191 (by decide) ?_
            refine xw_lstore (L2 := [(8, .long 0), (6, .long y.2), (4, .long x.2), (3, .int (nI 0)), (0, .ref m), (1, .int (nI i)), (2, .int (nI c))]) dX10_reckon_192 (by decide) rfl ?_
            refine xw_mem (L2 := [(8, .long 0), (0, .ref m), (1, .int (nI i)), (2, .int (nI c))]) (by simp) ?_
            exact xw_pc rfl (good _ [] (by rw [hrk, hrd, if_neg hl]))
          · have hl : x.2 < y.2 := Int64.not_le.mp (fun z => d5 ((lg_cmp_ge x.2 y.2).mpr z))
            refine xw_lconst (v := 1) dX10_reckon_187 (by decide) ?_
            refine xw_goto (tgt := 192) dX10_reckon_188 (by decide) ?_
            refine xw_lstore (L2 := [(8, .long 1), (6, .long y.2), (4, .long x.2), (3, .int (nI 0)), (0, .ref m), (1, .int (nI i)), (2, .int (nI c))]) dX10_reckon_192 (by decide) rfl ?_
            refine xw_mem (L2 := [(8, .long 1), (0, .ref m), (1, .int (nI i)), (2, .int (nI c))]) (by simp) ?_
            exact xw_pc rfl (good _ [] (by rw [hrk, hrd, if_pos hl]))
      refine xw_iload_n dX10_reckon_32 rfl rfl ?_
      refine xw_if_ne (tgt := 59) dX10_reckon_33 (by decide) (fun zz => absurd rfl zz) (fun _ => ?_)
      refine xw_aload_n dX10_reckon_36 rfl rfl ?_
      refine xw_get (ci := 11) (k := 2) (v := .ref (B 2)) dX10_reckon_37 hR.1 rfl inX10 (by decide) tw_793 (Or.inl rfl) rfl ?_
      refine xw_iload_n dX10_reckon_40 rfl rfl ?_
      refine xw_iald dX10_reckon_41 (hR.2.1 2 rfl) ini ?_
      rw [nI_clamp i31]
      rw [n1]
      refine xw_iconst (v := 4) dX10_reckon_42 (by decide) ?_
      refine xw_pc (pc2 := 43) rfl ?_
      refine xw_icmp_ne (tgt := 59) dX10_reckon_43 (by decide) (fun d3 => ?_) (fun d3 => ?_)
      · exact xw_pc rfl (go (fun z => d3 (by rw [z.1]; rfl)))
      · have e4 : (nd σ i).1 = 4 := (nI_eq (by omega) (by decide)).mp (show nI (nd σ i).1 = nI 4 from d3)
        refine xw_aload_n dX10_reckon_46 rfl rfl ?_
        refine xw_get (ci := 11) (k := 40) (v := .ref (B 40)) dX10_reckon_47 hR.1 rfl inX10 (by decide) tw_831 (Or.inl rfl) rfl ?_
        refine xw_iconst (v := 1) dX10_reckon_50 (by decide) ?_
        refine xw_lald dX10_reckon_51 (hR.2.2.1 40 rfl) in1 ?_
        rw [cl1]
        rw [kk1.2]
        refine xw_lconst (v := 0) dX10_reckon_52 (by decide) ?_
        refine xw_lcmp dX10_reckon_53 ?_
        refine xw_if_ne (tgt := 59) dX10_reckon_54 (by decide) (fun d4 => ?_) (fun d4 => ?_)
        · exact xw_pc rfl (go (fun z => d4 ((lg_cmp_eq _ _).mpr z.2)))
        · have hz : y.2 = 0 := (lg_cmp_eq _ _).mp d4
          refine xw_iconst (v := 1) dX10_reckon_57 (by decide) ?_
          refine xw_istore_n (L2 := [(3, .int 1), (0, .ref m), (1, .int (nI i)), (2, .int (nI c))]) dX10_reckon_58 rfl (by decide) rfl ?_
          exact xw_pc rfl (bad 1 (by decide) (by decide) (by rw [hrk, e4]; unfold reck; rw [if_neg (by decide), if_neg (by decide), if_neg (by decide), if_pos rfl, if_pos hz]; rfl))
    refine xw_istore_n (L2 := [(3, .int (nI 0)), (0, .ref m), (1, .int (nI i)), (2, .int (nI c))]) dX10_reckon_5 rfl (by decide) rfl ?_
    refine xw_iload_n dX10_reckon_6 rfl rfl ?_
    refine xw_if_ne (tgt := 32) dX10_reckon_7 (by decide) (fun zz => absurd rfl zz) (fun _ => ?_)
    refine xw_aload_n dX10_reckon_10 rfl rfl ?_
    refine xw_get (ci := 11) (k := 39) (v := .ref (B 39)) dX10_reckon_11 hR.1 rfl inX10 (by decide) tw_830 (Or.inl rfl) rfl ?_
    refine xw_iconst (v := 0) dX10_reckon_14 (by decide) ?_
    refine xw_iald dX10_reckon_15 (hR.2.1 39 rfl) in0 ?_
    rw [cl0]
    rw [kk0.1]
    refine xw_iconst (v := 2) dX10_reckon_16 (by decide) ?_
    refine xw_pc (pc2 := 17) rfl ?_
    refine xw_icmp_eq (tgt := 30) dX10_reckon_17 (by decide) (fun d1 => ?_) (fun d1 => ?_)
    · exact xw_pc rfl (four (Or.inl d1))
    · skip
      refine xw_aload_n dX10_reckon_20 rfl rfl ?_
      refine xw_get (ci := 11) (k := 39) (v := .ref (B 39)) dX10_reckon_21 hR.1 rfl inX10 (by decide) tw_830 (Or.inl rfl) rfl ?_
      refine xw_iconst (v := 1) dX10_reckon_24 (by decide) ?_
      refine xw_iald dX10_reckon_25 (hR.2.1 39 rfl) in1 ?_
      rw [cl1]
      rw [kk1.1]
      refine xw_iconst (v := 2) dX10_reckon_26 (by decide) ?_
      refine xw_icmp_ne (tgt := 32) dX10_reckon_27 (by decide) (fun d2 => ?_) (fun d2 => ?_)
      · have hx0 : x.1 = 0 := by rcases hx.cases with z | ⟨k, z⟩ | z; exact z; exact absurd z.1 x1; exact absurd z d1
        have hy0 : y.1 = 0 := by rcases hy.cases with z | ⟨k, z⟩ | z; exact z; exact absurd z.1 y1; exact absurd z d2
        exact xw_pc rfl (nums hx0 hy0)
      · exact xw_pc rfl (four (Or.inr d2))
end RECKON2
