/-! THE WHOLE LAW -/
section WHOLE
variable {G : hx_G} {M M0 M1 : hx_S} {A : hA} {Γ : hG} {σ : hs_S} {γ : hf_S} {b b' m ao sa n k s : Nat} {B : Nat → Nat} {th : Int32} {K : Nat → Int32} {V : Nat → Int64} {g : Nat → Int64} {f : Nat → Int32} {fre : List Nat}
theorem psum_zero {f : Nat → Nat} {k : Nat} (n : Nat) (h : ∀ b, k ≤ b → f b = 0) : psum f (k + n) = psum f k := by
  induction n with
  | zero => rfl
  | succ n ih =>
    show psum f (k + n) + f (k + n) = psum f k
    rw [ih, h _ (Nat.le_add_right _ _)]
    rfl
theorem acc_many {fr z0 : Nat} (hw : Wf M) (hz : z0 ≤ Sz M) (h1 : Sz M1 = Sz M + n) (h2 : Sl M1 = Sl M + s) (h3 : ∀ b, Sq M1 b = Sq M b) : acc M1 fr z0 = acc M fr z0 + 24 * n + 2 * s := by
  unfold acc
  rw [h1, h2, psum_congr (g := fun b => if b = fr then 0 else pt (Sq M b)) (fun b _ => by rw [h3]), psum_zero n (fun b hb => by rw [hw.nsq hb]; split <;> rfl)]
  omega
theorem AP.many (h : AP M A fre m k b) (hw : Wf M) (h1 : Sz M1 = Sz M + n) (h2 : Sl M1 = Sl M + s) (h3 : ∀ q, Sq M1 q = Sq M q) : AP M1 A fre m k (b + 24 * n + 2 * s) := by
  obtain ⟨cap, y, q1, q2, q3, q4, q5⟩ := h
  refine ⟨cap, y, ?_, by omega, by rw [h3]; exact q3, q4, fun a x hx => ?_⟩
  · rw [acc_many hw q2 h1 h2 h3]; omega
  · rw [h3] at hx
    have := q5 a x hx
    omega
theorem Rep.many {a : Nat} (h : Rep M A Γ σ γ b) (hw : Wf M) (e : Ext M M1 (c11 a) no1 no1 no1) (h1 : Sz M1 = Sz M + n) (h2 : Sl M1 = Sl M + s) (h3 : ∀ q, Sq M1 q = Sq M q) : Rep M1 A Γ σ γ (b + 24 * n + 2 * s) :=
  ⟨e.so h.1 (fun z => absurd z.1 (by decide)), h.2.1.ext0 e (fun c x z => Or.inr z.1) (h.2.1.2.2.2.2.2.2.many hw h1 h2 h3), h.2.2⟩
theorem ext_nj (hw : Wf M) {x : Nat × (Nat → Int64)} {n : Nat} : Ext M (jput (grow M n 21) (Sz M) (some x)) no2 no1 no1 no1 :=
  ⟨fun _ _ _ hv _ => hv, fun _ _ hv _ => hv, fun _ _ _ hv _ => hv, fun _ _ hv _ => hv, fun b v hv => by
    have hb := (hw.2.2.1 b v hv).2
    rw [Sj_jput, if_neg (by omega)]
    exact hv, Nat.le_succ _⟩
theorem fl41_0 (z : Nat) : [.int 0, .int 0, .null, .null, .null, .null, .null, .null, .int 0, .int 0, .null, .null, .null, .int 0, .null, .null, .null, .int 0, .null, .null, .null, .null, .null, .int 0, .null, .null, .null, .null, .int 0, .null, .null, .null, .int 0, .null, .null, .null, .int 0, .int 0, .int 0, .null, .null] = fl41 z 0 0 := by
  refine List.ext_getElem? fun i => ?_
  by_cases hi : i < 41
  · rw [fl41_at hi]
    rcases (show i = 0 ∨ i = 1 ∨ i = 2 ∨ i = 3 ∨ i = 4 ∨ i = 5 ∨ i = 6 ∨ i = 7 ∨ i = 8 ∨ i = 9 ∨ i = 10 ∨ i = 11 ∨ i = 12 ∨ i = 13 ∨ i = 14 ∨ i = 15 ∨ i = 16 ∨ i = 17 ∨ i = 18 ∨ i = 19 ∨ i = 20 ∨ i = 21 ∨ i = 22 ∨ i = 23 ∨ i = 24 ∨ i = 25 ∨ i = 26 ∨ i = 27 ∨ i = 28 ∨ i = 29 ∨ i = 30 ∨ i = 31 ∨ i = 32 ∨ i = 33 ∨ i = 34 ∨ i = 35 ∨ i = 36 ∨ i = 37 ∨ i = 38 ∨ i = 39 ∨ i = 40 by omega) with rfl | rfl | rfl | rfl | rfl | rfl | rfl | rfl | rfl | rfl | rfl | rfl | rfl | rfl | rfl | rfl | rfl | rfl | rfl | rfl | rfl | rfl | rfl | rfl | rfl | rfl | rfl | rfl | rfl | rfl | rfl | rfl | rfl | rfl | rfl | rfl | rfl | rfl | rfl | rfl | rfl <;> rfl
  · rw [List.getElem?_eq_none (by show 41 ≤ i; omega), List.getElem?_eq_none (by rw [fl41_len]; omega)]
theorem GN.zero : GN σ0 := fun i x hx => by cases hx
theorem GK.zero : GK σ0 := fun x hx => by cases hx
/-- what is left of the room -/
theorem Rep.room (h : Rep M A Γ σ γ b) (hz : aZ A = Sz M0) (hb : b ≤ 14400000) : Sz M - Sz M0 ≤ 601024 ∧ Sl M - Sl M0 ≤ 7293034 := by
  obtain ⟨cap, y, q1, q2, -⟩ := h.2.1.2.2.2.2.2.2
  unfold acc at q1
  rw [hz] at q1 q2
  omega
abbrev LAWP (M0 : hx_S) : Option Value → hx_S → Prop := fun r M1 => r = some (.int 1) ∧ Sz M1 - Sz M0 ≤ 601024 ∧ Sl M1 - Sl M0 ≤ 7293034
theorem law_loop (hX : GX G) (hS : GSc G sa n f) (hn : n ≤ 2560) (hF : FX A B ao) (hz : aZ A = Sz M0) (hb0 : b ≤ 200000) : ∀ (t j : Nat) (M : hx_S) (Γ : hG) (σ : hs_S) (γ : hf_S) (th : Int32) (K : Nat → Int32) (V : Nat → Int64) (g : Nat → Int64), n ≤ 5 * j + 5 * t + 4 → 5 * j ≤ n →
    Rep M A Γ σ γ (b + 300 * j + 2400 * sAl σ) → RM M m B σ th K V → GN σ → GK σ → Sj M ao = some (1, g) → XW G 14 338 mL_law [.ref sa] M0 (LAWP M0) M 23 [(4, .int (nI (5 * j))), (3, .ref ao), (2, .ref m), (1, .ref (aT A)), (0, .ref sa)] [] := by
  intro t
  induction t with
  | zero =>
    intro j M Γ σ γ th K V g ht hj h hR hN hK hg
    have h5 := h.2.2.2.2.2.2.2.2.2.2.1.2.2.2.1
    refine xw_iload dL_law_23 rfl ?_
    refine xw_aload_n dL_law_25 rfl rfl ?_
    refine xw_slen hS dL_law_26 ?_
    refine xw_iconst (v := 5) dL_law_27 (by decide) ?_
    refine xw_isub dL_law_28 ?_
    refine xw_icmp_gt (tgt := 764) dL_law_29 (by decide) (fun _ => ?_) (fun zz => absurd (end5 hn hj (by omega)) zz)
    refine xw_iconst (v := 1) dL_law_764 (by decide) ?_
    exact xw_zret rfl (by rfl) dL_law_765 ⟨rfl, h.room hz (by omega)⟩
  | succ t ih =>
    intro j M Γ σ γ th K V g ht hj h hR hN hK hg
    have h5 := h.2.2.2.2.2.2.2.2.2.2.1.2.2.2.1
    refine xw_iload dL_law_23 rfl ?_
    refine xw_aload_n dL_law_25 rfl rfl ?_
    refine xw_slen hS dL_law_26 ?_
    refine xw_iconst (v := 5) dL_law_27 (by decide) ?_
    refine xw_isub dL_law_28 ?_
    by_cases hi : 5 * j + 5 ≤ n
    · have fin : LF G M0 (LAWP M0) A B m ao sa (5 * j) (b + 300 * j) := by
        intro M' σ' Γ' γ' th' K' V' g' h' hR' hN' hK' hg'
        refine xw_iinc (v := (nI (5 * j)) + 5) (L2 := [(4, .int ((nI (5 * j)) + 5)), (3, .ref ao), (2, .ref m), (1, .ref (aT A)), (0, .ref sa)]) dL_law_758 rfl rfl (by decide) rfl ?_
        refine xw_goto (tgt := 23) dL_law_761 (by decide) ?_
        have e : nI (5 * j) + 5 = nI (5 * (j + 1)) := by rw [show (5 : Int32) = nI 5 from rfl, nI_add]; rfl
        rw [e]
        exact ih (j + 1) M' Γ' σ' γ' th' K' V' g' (by omega) (by omega) (h'.mono (by omega)) hR' hN' hK' hg'
      have hL : LB M A Γ σ γ B m ao (b + 300 * j) th K V g := ⟨h, hR, hN, hK, hg, hF, by omega⟩
      refine xw_icmp_gt (tgt := 764) dL_law_29 (by decide) (fun zz => absurd zz (go5 hn hi)) (fun _ => ?_)
      obtain ⟨s0, e0⟩ : ∃ s0, s0 = f (5 * j) := ⟨_, rfl⟩
      refine xw_aload_n dL_law_32 rfl rfl ?_
      refine xw_iload dL_law_33 rfl ?_
      refine xw_pc (pc2 := 35) rfl ?_
      refine xw_scr0 hS dL_law_35 (by omega) hn e0 ?_
      refine xw_bipush (v := 15) dL_law_36 (by decide) ?_
      refine xw_iand dL_law_38 ?_
      obtain ⟨k, hk, e⟩ := and15 s0
      rw [e]
      rcases (show k = 0 ∨ k = 1 ∨ k = 2 ∨ k = 3 ∨ k = 4 ∨ k = 5 ∨ k = 6 ∨ k = 7 ∨ k = 8 ∨ k = 9 ∨ k = 10 ∨ (11 ≤ k ∧ k < 16) by omega) with rfl | rfl | rfl | rfl | rfl | rfl | rfl | rfl | rfl | rfl | rfl | hk2
      · skip
        refine xw_tableIn (off := 57) (tgt := 96) dL_law_39 (by decide +kernel) (by decide +kernel) (by decide +kernel) rfl ?_
        exact law_node hX hS hn hi hL fin
      · skip
        refine xw_tableIn (off := 125) (tgt := 164) dL_law_39 (by decide +kernel) (by decide +kernel) (by decide +kernel) rfl ?_
        exact law_arc hX hS hn hi hL fin
      · skip
        refine xw_tableIn (off := 186) (tgt := 225) dL_law_39 (by decide +kernel) (by decide +kernel) (by decide +kernel) rfl ?_
        exact law_token hX hS hn hi hL fin
      · skip
        refine xw_tableIn (off := 267) (tgt := 306) dL_law_39 (by decide +kernel) (by decide +kernel) (by decide +kernel) rfl ?_
        exact law_run hX hS hn hi hL fin
      · skip
        refine xw_tableIn (off := 367) (tgt := 406) dL_law_39 (by decide +kernel) (by decide +kernel) (by decide +kernel) rfl ?_
        exact law_clear hX hS hn hi hL fin
      · skip
        refine xw_tableIn (off := 406) (tgt := 445) dL_law_39 (by decide +kernel) (by decide +kernel) (by decide +kernel) rfl ?_
        exact law_ready hX hS hn hi hL fin
      · skip
        refine xw_tableIn (off := 443) (tgt := 482) dL_law_39 (by decide +kernel) (by decide +kernel) (by decide +kernel) rfl ?_
        exact law_result hX hS hn hi hL fin
      · skip
        refine xw_tableIn (off := 510) (tgt := 549) dL_law_39 (by decide +kernel) (by decide +kernel) (by decide +kernel) rfl ?_
        exact law_context hX hS hn hi hL fin
      · skip
        refine xw_tableIn (off := 578) (tgt := 617) dL_law_39 (by decide +kernel) (by decide +kernel) (by decide +kernel) rfl ?_
        exact law_cell hX hS hn hi hL fin
      · skip
        refine xw_tableIn (off := 657) (tgt := 696) dL_law_39 (by decide +kernel) (by decide +kernel) (by decide +kernel) rfl ?_
        exact law_waiting hX hS hn hi hL fin
      · skip
        refine xw_tableIn (off := 694) (tgt := 733) dL_law_39 (by decide +kernel) (by decide +kernel) (by decide +kernel) rfl ?_
        exact law_total hX hS hn hi hL fin
      · skip
        refine xw_tableOut (tgt := 758) dL_law_39 (Or.inr (by rw [nI_T (by omega)]; omega)) rfl ?_
        exact fin M σ Γ γ th K V g (h.mono (by omega)) hR hN hK hg
    · skip
      refine xw_icmp_gt (tgt := 764) dL_law_29 (by decide) (fun _ => ?_) (fun zz => absurd (end5 hn hj hi) zz)
      refine xw_iconst (v := 1) dL_law_764 (by decide) ?_
      exact xw_zret rfl (by rfl) dL_law_765 ⟨rfl, h.room hz (by omega)⟩
theorem xw_law (hX : GX G) (hS : GSc G sa n f) (hn : n ≤ 2560) (hq : ∀ x, Sq M x = none) (hl : Sl M = 0) : XW G 14 338 mL_law [.ref sa] M (LAWP M) M 0 [(0, .ref sa)] [] := by
  refine xw_new (ci := 10) (fs := [.null, .null, .null, .null, .null, .null, .null, .int 0, .int 0, .int 0, .int 0, .int 0, .int 0]) tyX9 dL_law_0 rfl inX9 tyX9_ok (by decide) tw_65 tw_66 tw_39 (fun j hj => by rcases (show j = 0 ∨ j = 1 ∨ j = 2 ∨ j = 3 ∨ j = 4 ∨ j = 5 ∨ j = 6 ∨ j = 7 ∨ j = 8 ∨ j = 9 ∨ j = 10 ∨ j = 11 ∨ j = 12 by omega) with rfl | rfl | rfl | rfl | rfl | rfl | rfl | rfl | rfl | rfl | rfl | rfl | rfl <;> rfl) ?_
  refine xw_dup dL_law_3 rfl ?_
  refine xw_callI (q2 := mX9_init) (n2 := 0) (Bs := []) (rest := [.ref (Sz M)]) (ct_House (z0 := Sz M) (by rw [So_oput, if_pos ⟨rfl, rfl⟩]) hq (Nat.le_succ _)) rfl dL_law_4 rfl rfl tw_67 tw_68 tw_39 tw_69 (by decide +kernel) rfl (Nat.le_of_ble_eq_true rfl) (Nat.le_of_ble_eq_true rfl) (Nat.le_of_ble_eq_true rfl) (fun rr M1 hr hle1 => ?_)
  obtain ⟨rfl, A, Γ, γ, hT, hZ, h, -, hge⟩ := hr
  have hb1 : 2 * Sl (oput (grow M 13 10) 10 (Sz M) (some [.null, .null, .null, .null, .null, .null, .null, .int 0, .int 0, .int 0, .int 0, .int 0, .int 0])) + 24 * (Sz (oput (grow M 13 10) 10 (Sz M) (some [.null, .null, .null, .null, .null, .null, .null, .int 0, .int 0, .int 0, .int 0, .int 0, .int 0])) - Sz M) + 3000 = 3050 := by
    rw [Sl_oput, Sz_oput, Sl_grow, Sz_grow, hl]; omega
  rw [hb1] at h
  clear hb1
  rw [← hT]
  refine xw_wf fun hw1 => ?_
  generalize hM2 : M1 = M2 at *
  refine xw_astore_n (L2 := [(1, .ref (aT A)), (0, .ref sa)]) dL_law_7 rfl (by decide) rfl ?_
  refine xw_new (ci := 11) (fs := [.int 0, .int 0, .null, .null, .null, .null, .null, .null, .int 0, .int 0, .null, .null, .null, .int 0, .null, .null, .null, .int 0, .null, .null, .null, .null, .null, .int 0, .null, .null, .null, .null, .int 0, .null, .null, .null, .int 0, .null, .null, .null, .int 0, .int 0, .int 0, .null, .null]) tyX10 dL_law_8 rfl inX10 tyX10_ok (by decide) tw_785 tw_786 tw_47 (fun j hj => by rcases (show j = 0 ∨ j = 1 ∨ j = 2 ∨ j = 3 ∨ j = 4 ∨ j = 5 ∨ j = 6 ∨ j = 7 ∨ j = 8 ∨ j = 9 ∨ j = 10 ∨ j = 11 ∨ j = 12 ∨ j = 13 ∨ j = 14 ∨ j = 15 ∨ j = 16 ∨ j = 17 ∨ j = 18 ∨ j = 19 ∨ j = 20 ∨ j = 21 ∨ j = 22 ∨ j = 23 ∨ j = 24 ∨ j = 25 ∨ j = 26 ∨ j = 27 ∨ j = 28 ∨ j = 29 ∨ j = 30 ∨ j = 31 ∨ j = 32 ∨ j = 33 ∨ j = 34 ∨ j = 35 ∨ j = 36 ∨ j = 37 ∨ j = 38 ∨ j = 39 ∨ j = 40 by omega) with rfl | rfl | rfl | rfl | rfl | rfl | rfl | rfl | rfl | rfl | rfl | rfl | rfl | rfl | rfl | rfl | rfl | rfl | rfl | rfl | rfl | rfl | rfl | rfl | rfl | rfl | rfl | rfl | rfl | rfl | rfl | rfl | rfl | rfl | rfl | rfl | rfl | rfl | rfl | rfl | rfl <;> rfl) ?_
  refine xw_dup dL_law_11 rfl ?_
  have h3 : Rep (oput (grow M2 41 11) 11 (Sz M2) (some [.int 0, .int 0, .null, .null, .null, .null, .null, .null, .int 0, .int 0, .null, .null, .null, .int 0, .null, .null, .null, .int 0, .null, .null, .null, .null, .null, .int 0, .null, .null, .null, .null, .int 0, .null, .null, .null, .int 0, .null, .null, .null, .int 0, .int 0, .int 0, .null, .null])) A Γ σ0 γ (3050 + 24 * 1 + 2 * 41) := h.many (a := 0) hw1 ((ext_new hw1).mono (fun _ _ => False.elim) (fun _ => id) (fun _ => id) (fun _ => id)) rfl rfl (fun _ => rfl)
  refine xw_wf fun hw2 => ?_
  have ho : So (oput (grow M2 41 11) 11 (Sz M2) (some [.int 0, .int 0, .null, .null, .null, .null, .null, .null, .int 0, .int 0, .null, .null, .null, .int 0, .null, .null, .null, .int 0, .null, .null, .null, .null, .null, .int 0, .null, .null, .null, .null, .int 0, .null, .null, .null, .int 0, .null, .null, .null, .int 0, .int 0, .int 0, .null, .null])) 11 (Sz M2) = some (fl41 (Sz (oput (grow M2 41 11) 11 (Sz M2) (some [.int 0, .int 0, .null, .null, .null, .null, .null, .null, .int 0, .int 0, .null, .null, .null, .int 0, .null, .null, .null, .int 0, .null, .null, .null, .null, .null, .int 0, .null, .null, .null, .null, .int 0, .null, .null, .null, .int 0, .null, .null, .null, .int 0, .int 0, .int 0, .null, .null]))) 0 0) := by rw [So_oput, if_pos ⟨rfl, rfl⟩]; exact congrArg some (fl41_0 _)
  have hz3 : Sz (oput (grow M2 41 11) 11 (Sz M2) (some [.int 0, .int 0, .null, .null, .null, .null, .null, .null, .int 0, .int 0, .null, .null, .null, .int 0, .null, .null, .null, .int 0, .null, .null, .null, .null, .null, .int 0, .null, .null, .null, .null, .int 0, .null, .null, .null, .int 0, .null, .null, .null, .int 0, .int 0, .int 0, .null, .null])) = Sz M2 + 1 := rfl
  generalize oput (grow M2 41 11) 11 (Sz M2) (some [.int 0, .int 0, .null, .null, .null, .null, .null, .null, .int 0, .int 0, .null, .null, .null, .int 0, .null, .null, .null, .int 0, .null, .null, .null, .null, .null, .int 0, .null, .null, .null, .null, .int 0, .null, .null, .null, .int 0, .null, .null, .null, .int 0, .int 0, .int 0, .null, .null]) = M3 at h3 hw2 ho hz3 ⊢
  refine xw_callI (q2 := mX10_init) (n2 := 0) (Bs := []) (rest := [.ref (Sz M2)]) (ct_Model ho) rfl dL_law_12 rfl rfl tw_787 tw_788 tw_47 tw_789 (by decide +kernel) rfl (Nat.le_of_ble_eq_true rfl) (Nat.le_of_ble_eq_true rfl) (Nat.le_of_ble_eq_true rfl) (fun rr M1 hr hle1 => ?_)
  obtain ⟨rfl, B, hB, hR, v1, v2, v3, v4⟩ := hr
  have h4 := h3.many hw2 v4 v1 v2 (fun q => by rw [v3])
  refine xw_wf fun hw3 => ?_
  refine xw_astore_n (L2 := [(2, .ref (Sz M2)), (1, .ref (aT A)), (0, .ref sa)]) dL_law_15 rfl (by decide) rfl ?_
  refine xw_iconst (v := 1) dL_law_16 (by decide) ?_
  refine xw_newJ (N := 1) tw_915 dL_law_17 (by decide) (by decide) (by decide) ?_
  have h5 : Rep (jput (grow M1 1 21) (Sz M1) (some (1, fun _ => 0))) A Γ σ0 γ _ := h4.many (a := 0) hw3 ((ext_nj hw3).mono (fun _ _ => False.elim) (fun _ => id) (fun _ => id) (fun _ => id)) rfl rfl (fun _ => rfl)
  have hlt : ∀ q v, Si M2 q = some v → q < Sz M2 := fun q v hv => Nat.lt_of_not_le fun z => by rw [hw1.nsi z] at hv; cases hv
  obtain ⟨-, ⟨fo, fs, fr, x2, x3, x4, -⟩, -⟩ := h.2.1.2.2.2.1
  obtain ⟨-, -, ⟨fl, x5, -⟩, -⟩ := h.2.1.2.2.2.2.1
  have hF : FX A B (Sz M1) := by
    refine ⟨fun k hk => ?_, fun k hk => ?_⟩
    · have := (hB k (by rw [hk]; rfl)).1
      have := hlt _ _ x2
      have := hlt _ _ x3
      have := hlt _ _ x4
      have := hlt _ _ x5
      omega
    · have := (hB k (by rw [hk, Bool.or_true])).2
      omega
  have hR5 : RM (jput (grow M1 1 21) (Sz M1) (some (1, fun _ => 0))) (Sz M2) B σ0 0 (fun _ => 0) (fun _ => 0) := hR.xe (A := A) ((ext_nj hw3).mono (fun _ _ => False.elim) (fun _ => False.elim) (fun _ => False.elim) (fun _ => False.elim)) hF.1
  refine xw_astore_n (L2 := [(3, .ref (Sz M1)), (2, .ref (Sz M2)), (1, .ref (aT A)), (0, .ref sa)]) dL_law_19 rfl (by decide) rfl ?_
  refine xw_iconst (v := 0) dL_law_20 (by decide) ?_
  refine xw_istore (L2 := [(4, .int 0), (3, .ref (Sz M1)), (2, .ref (Sz M2)), (1, .ref (aT A)), (0, .ref sa)]) dL_law_21 (by decide) rfl ?_
  have hs : sumL 29 = 21814 := by decide +kernel
  rw [hs] at h5
  refine xw_mem (L2 := [(4, .int (nI (5 * 0))), (3, .ref (Sz M1)), (2, .ref (Sz M2)), (1, .ref (aT A)), (0, .ref sa)]) (by simp; rfl) ?_
  refine law_loop (b := 50000) hX hS hn hF hZ (by decide) 512 0 _ Γ σ0 γ 0 _ _ _ (by omega) (by omega) (h5.mono ?_) hR5 GN.zero GK.zero (by rw [Sj_jput, if_pos rfl])
  show _ ≤ 50000 + 300 * 0 + 2400 * 0
  omega
end WHOLE
