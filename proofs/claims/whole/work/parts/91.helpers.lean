/-! THE LAW'S HELPERS -/
abbrev mL_node : hx_M := (yL_node, cL_node, 5, some .int)
abbrev mL_run : hx_M := (yL_run, cL_run, 6, some .int)
abbrev mL_result : hx_M := (yL_result, cL_result, 5, some .int)
abbrev mL_context : hx_M := (yL_context, cL_context, 5, some .int)
abbrev mL_cell : hx_M := (yL_cell, cL_cell, 6, some .int)
abbrev mL_law : hx_M := (yL_law, cL_law, 8, some .boolean)
abbrev hL_node : List (Nat × Nat × Nat × Nat) := [(0, 10, 13, 13), (0, 10, 17, 15)]
abbrev hL_run : List (Nat × Nat × Nat × Nat) := [(0, 11, 14, 13), (0, 11, 18, 15)]
abbrev hL_result : List (Nat × Nat × Nat × Nat) := [(0, 9, 12, 25)]
abbrev hL_context : List (Nat × Nat × Nat × Nat) := [(0, 10, 13, 25)]
abbrev hL_cell : List (Nat × Nat × Nat × Nat) := [(0, 11, 14, 25)]
set_option maxRecDepth 100000 in
theorem tw_469 : Cond.codeWith mL_node.1 mL_node.2.1 mL_node.2.2.1 mL_node.2.2.2 hL_node ∈ TW := tw_in 469 rfl rfl
set_option maxRecDepth 100000 in
theorem tw_608 : Cond.codeWith mL_run.1 mL_run.2.1 mL_run.2.2.1 mL_run.2.2.2 hL_run ∈ TW := tw_in 608 rfl rfl
set_option maxRecDepth 100000 in
theorem tw_747 : Cond.codeWith mL_result.1 mL_result.2.1 mL_result.2.2.1 mL_result.2.2.2 hL_result ∈ TW := tw_in 747 rfl rfl
set_option maxRecDepth 100000 in
theorem tw_771 : Cond.codeWith mL_context.1 mL_context.2.1 mL_context.2.2.1 mL_context.2.2.2 hL_context ∈ TW := tw_in 771 rfl rfl
set_option maxRecDepth 100000 in
theorem tw_779 : Cond.codeWith mL_cell.1 mL_cell.2.1 mL_cell.2.2.1 mL_cell.2.2.2 hL_cell ∈ TW := tw_in 779 rfl rfl
/-- the reference's arrays are none of the class's, nor the law's own -/
def FX (A : hA) (B : Nat → Nat) (ao : Nat) : Prop := apart A B ∧ ∀ k, isJ k = true → B k ≠ ao
def nodK (σ : hs_S) (a : Int32) : Int32 := if a < 0 ∨ 17 < a then 1 else if (sN σ).length = 40 ∨ sB σ ≠ 0 then 2 else 0
def nodS (σ : hs_S) (a nn : Int32) : hs_S := if nodK σ a = 0 then addN σ a.toNatClampNeg nn else σ
def runK (σ : hs_S) (n : Int32) : Int32 := if n < 1 ∨ 500 < n then 1 else if sAl σ = 5000 then 2 else 0
def runP (σ : hs_S) (n : Int32) (p : Int64) : Nat × hs_S := if runK σ n = 0 then runs n.toNatClampNeg p 0 σ else (0, σ)
def askK (n : Nat) (a w : Int32) : Int32 := if askC n a w then 0 else 1
def celK (σ : hs_S) (a i w : Int32) : Int32 := if celC σ a i w then 0 else 1
section HELP
variable {G : hx_G} {M M1 : hx_S} {A : hA} {Γ : hG} {σ : hs_S} {γ : hf_S} {b m ao : Nat} {B : Nat → Nat} {th : Int32} {K : Nat → Int32} {V : Nat → Int64}
theorem in01 : vp_in 0 1 := show vp_in (nI 0) 1 from vp_in_nI (by decide) (by decide)
theorem ctw_wf {d lo : Nat} {q : hx_M} {hh : List (Nat × Nat × Nat × Nat)} {As : List Value} {P : Option Value → hx_S → Prop} (h : Wf M → CTW G d lo q hh As M P) : CTW G d lo q hh As M P := fun hw => h hw hw
theorem i18 {a : Int32} (h : ¬ (a < 0 ∨ 17 < a)) : ∃ o, o < 18 ∧ a = nI o := by
  obtain ⟨j, hj, e, -⟩ := pk_mu (x := a) (L := 18) (fun z => h (Or.inl z)) (fun z => h (Or.inr (by
    rw [Int32.le_iff_toInt_le] at z
    rw [Int32.lt_iff_toInt_lt]
    have e1 : (17 : Int32).toInt = 17 := rfl
    have e2 : (nI 18).toInt = 18 := rfl
    omega))) (by decide)
  exact ⟨j, hj, e⟩
theorem i500 {a : Int32} (h : ¬ (a < 1 ∨ 500 < a)) : ∃ o, (1 ≤ o ∧ o ≤ 500) ∧ a = nI o := by
  have h1 : ¬ a < 1 := fun z => h (Or.inl z)
  have h2 : ¬ 500 < a := fun z => h (Or.inr z)
  rw [Int32.lt_iff_toInt_lt] at h1 h2
  have e1 : (1 : Int32).toInt = 1 := rfl
  have e2 : (500 : Int32).toInt = 500 := rfl
  obtain ⟨j, hj, e, -⟩ := pk_mu (x := a) (L := 501) (fun z => by
    rw [Int32.lt_iff_toInt_lt] at z
    have e0 : (0 : Int32).toInt = 0 := rfl
    omega) (fun z => by
    rw [Int32.le_iff_toInt_le] at z
    have e3 : (nI 501).toInt = 501 := rfl
    omega) (by decide)
  subst e
  have e4 : (nI j).toInt = (j : Int) := by unfold nI; exact Int32.toInt_ofNat_small (by omega)
  exact ⟨j, ⟨by omega, by omega⟩, rfl⟩
theorem ask_nI {n : Nat} {a w : Int32} (h : askC n a w) (hn : n < 2 ^ 31) : ∃ i, i < n ∧ a = nI i := by
  obtain ⟨j, hj, e, -⟩ := pk_mu h.1.1 (fun z => absurd h.1.2 (Int32.not_lt.mpr z)) hn
  exact ⟨j, hj, e⟩
theorem xe_grow : XE A M (grow M 6 99) := ext_grow.mono (fun _ _ => False.elim) (fun _ => False.elim) (fun _ => False.elim) (fun _ => False.elim)
theorem Rep.gr (h : Rep M A Γ σ γ b) (hw : Wf M) : Rep (grow M 6 99) A Γ σ γ (b + 36) := ⟨h.1, h.2.1.ext0 (cs := no2) ext_grow (fun _ _ => False.elim) ((h.2.1.2.2.2.2.2.2.one (M1 := grow M 6 99) (s := 6) hw rfl rfl (fun _ => rfl)).mono (Nat.le_refl _)), h.2.2⟩
theorem Rep.jp (h : Rep M A Γ σ γ b) {x : Option (Nat × (Nat → Int64))} : Rep (jput M ao x) A Γ σ γ b := by
  refine h.ef (m := 0) (B := fun k => if isJ k = true then ao else aO A + aS A + aU A + aL A + 1) ⟨⟨rfl, rfl, rfl, rfl⟩, fun _ _ _ => rfl, fun _ _ => rfl, fun y n => ?_⟩ fun k hk => ?_
  · rw [Sj_jput, if_neg (show ¬ y = ao from n 16 rfl)]
  · have : isJ k = false := ij0 k (is41 (by rw [hk]; rfl)) hk
    simp only [this, Bool.false_eq_true, if_false]
    omega
theorem RM.jp (h : RM M m B σ th K V) (hF : FX A B ao) {x : Option (Nat × (Nat → Int64))} : RM (jput M ao x) m B σ th K V := by
  obtain ⟨ρ, T, ⟨r1, r2, r3, r4⟩, h0, hAb, hT, hW⟩ := h
  exact ⟨ρ, T, ⟨r1, r2, fun k hk => by rw [Sj_jput, if_neg (hF.2 k hk)]; exact r3 k hk, r4⟩, h0, hAb, hT, hW⟩
theorem sj_xe {g : Nat → Int64} (e : XE A M M1) (h : Sj M ao = some (1, g)) : Sj M1 ao = some (1, g) := e.2.2.2.2.1 _ _ h
theorem ctw_node (hX : GX G) (h : Rep M A Γ σ γ b) (hb : b + 300 ≤ 14400000) (hR : RM M m B σ th K V) {g : Nat → Int64} (hg : Sj M ao = some (1, g)) (hF : FX A B ao) {a nn : Int32} :
    CTW G 8 180 mL_node hL_node [.ref (aT A), .int a, .int nn, .ref ao] M (fun r M1 => r = some (.int (nodK σ a)) ∧ (∃ Γ1 γ1, Rep M1 A Γ1 (nodS σ a nn) γ1 (b + 300)) ∧ RM M1 m B σ th K V ∧ ∃ g, Sj M1 ao = some (1, g) ∧ (nodK σ a = 0 → g 0 = (nI (sN σ).length).toInt64)) := by
  refine ctw_wf fun hw => ?_
  refine ctw_go (by decide +kernel) (Nat.le_of_ble_eq_true rfl) (L := [(0, .ref (aT A)), (1, .int a), (2, .int nn), (3, .ref ao)]) rfl ?_
  refine xw_aload_n dL_node_0 rfl rfl ?_
  refine xw_iconst (v := 0) dL_node_1 (by decide) ?_
  refine xw_aload_n dL_node_2 rfl rfl ?_
  refine xw_iload_n dL_node_3 rfl rfl ?_
  refine xw_iload_n dL_node_4 rfl rfl ?_
  by_cases hA : a < 0 ∨ 17 < a
  · have hk : nodK σ a = 1 := if_pos hA
    have hs : nodS σ a nn = σ := if_neg (by rw [hk]; decide)
    refine xw_callX (q2 := mX9_node) (n2 := 2) (ci := 10) (Bs := [.int a, .int nn]) (rest := [.int 0, .ref ao]) (r0 := some (.int 1)) (ctx_nodeA hX hA) dL_node_5 rfl (o_at h.1) rfl rfl tw_472 tw_473 tw_474 tw_39 tw_475 (by decide +kernel) rfl (Nat.le_of_ble_eq_true rfl) (Nat.le_of_ble_eq_true rfl) (Nat.le_of_ble_eq_true rfl) hX (Or.inl rfl) [] [⟨0, 10, 17, 15⟩] ⟨0, 10, 13, 13⟩ (fun c hc => hc) (fun z hz => nomatch hz) (by decide) (by decide) tw_470 (fun M1 hr hle1 => ⟨?_, fun qa => ?_⟩)
    · obtain rfl := hr
      exact ⟨by rw [hk], ⟨Γ, γ, by rw [hs]; exact (h.gr hw).mono (by omega)⟩, hR.xe xe_grow hF.1, g, sj_xe (A := A) xe_grow hg, fun z => by rw [hk] at z; cases z⟩
    · refine xw_pc (pc2 := 13) rfl ?_
      refine xw_astore (L2 := [(4, .ref qa), (0, .ref (aT A)), (1, .int a), (2, .int nn), (3, .ref ao)]) dL_node_13 (by decide) rfl ?_
      refine xw_iconst (v := 1) dL_node_15 (by decide) ?_
      exact xw_iret rfl dL_node_16 ⟨rfl, rfl⟩
  · obtain ⟨o, ho, rfl⟩ := i18 hA
    have h40 := h.2.2.1
    by_cases hB : (sN σ).length = 40 ∨ sB σ ≠ 0
    · have hk : nodK σ (nI o) = 2 := by unfold nodK; rw [if_neg hA, if_pos hB]
      have hs : nodS σ (nI o) nn = σ := if_neg (by rw [hk]; decide)
      refine xw_callX (q2 := mX9_node) (n2 := 2) (ci := 10) (Bs := [.int (nI o), .int nn]) (rest := [.int 0, .ref ao]) (r0 := some (.int 2)) (ctx_nodeB hX h ho hB) dL_node_5 rfl (o_at h.1) rfl rfl tw_472 tw_473 tw_474 tw_39 tw_475 (by decide +kernel) rfl (Nat.le_of_ble_eq_true rfl) (Nat.le_of_ble_eq_true rfl) (Nat.le_of_ble_eq_true rfl) hX (Or.inr (Or.inl rfl)) [⟨0, 10, 13, 13⟩] [] ⟨0, 10, 17, 15⟩ (fun c hc => hc) (fun z hz => by rw [List.mem_singleton.mp hz]; exact Or.inr ⟨by decide, rfl, tw_470⟩) (by decide) (by decide) tw_471 (fun M1 hr hle1 => ⟨?_, fun qa => ?_⟩)
      · obtain rfl := hr
        exact ⟨by rw [hk], ⟨Γ, γ, by rw [hs]; exact (h.gr hw).mono (by omega)⟩, hR.xe xe_grow hF.1, g, sj_xe (A := A) xe_grow hg, fun z => by rw [hk] at z; cases z⟩
      · refine xw_pc (pc2 := 17) rfl ?_
        refine xw_astore (L2 := [(4, .ref qa), (0, .ref (aT A)), (1, .int (nI o)), (2, .int nn), (3, .ref ao)]) dL_node_17 (by decide) rfl ?_
        refine xw_iconst (v := 2) dL_node_19 (by decide) ?_
        exact xw_iret rfl dL_node_20 ⟨rfl, rfl⟩
    · have hk : nodK σ (nI o) = 0 := by unfold nodK; rw [if_neg hA, if_neg hB]
      have hs : nodS σ (nI o) nn = addN σ o nn := by unfold nodS; rw [if_pos hk, nI_clamp (by omega)]
      refine xw_callV (q2 := mX9_node) (n2 := 2) (ci := 10) (Bs := [.int (nI o), .int nn]) (rest := [.int 0, .ref ao]) (ct_node h hb ho (by omega) (by omega)) dL_node_5 rfl (o_at h.1) rfl rfl tw_472 tw_473 tw_474 tw_39 tw_475 (by decide +kernel) rfl (Nat.le_of_ble_eq_true rfl) (Nat.le_of_ble_eq_true rfl) (Nat.le_of_ble_eq_true rfl) (fun rr M1 hr hle1 => ?_)
      obtain ⟨rfl, Γ1, γ1, hR1, hE⟩ := hr
      refine xw_i2l dL_node_8 ?_
      refine xw_last dL_node_9 (sj_xe hE hg) in01 ?_
      refine xw_goto (tgt := 21) dL_node_10 (by decide) ?_
      refine xw_iconst (v := 0) dL_node_21 (by decide) ?_
      refine xw_iret rfl dL_node_22 ⟨by rw [hk], ⟨Γ1, γ1, by rw [hs]; exact hR1.jp⟩, (hR.xe hE hF.1).jp hF, _, by rw [Sj_jput, if_pos rfl], fun _ => ?_⟩
      exact if_pos rfl
theorem ctw_run (hX : GX G) (h : Rep M A Γ σ γ (b + 2400 * sAl σ)) (hb : b + 12003100 ≤ 14400000) (hR : RM M m B σ th K V) {g : Nat → Int64} (hg : Sj M ao = some (1, g)) (hF : FX A B ao) {n : Int32} {p : Int64} :
    CTW G 13 313 mL_run hL_run [.ref (aT A), .int n, .long p, .ref ao] M (fun r M1 => r = some (.int (runK σ n)) ∧ (∃ Γ1 γ1, Rep M1 A Γ1 (runP σ n p).2 γ1 (b + 36 + 2400 * sAl (runP σ n p).2)) ∧ RM M1 m B σ th K V ∧ ∃ g, Sj M1 ao = some (1, g) ∧ (runK σ n = 0 → g 0 = (nI (runP σ n p).1).toInt64)) := by
  refine ctw_wf fun hw => ?_
  refine ctw_go (by decide +kernel) (Nat.le_of_ble_eq_true rfl) (L := [(0, .ref (aT A)), (1, .int n), (2, .long p), (4, .ref ao)]) rfl ?_
  refine xw_aload dL_run_0 rfl ?_
  refine xw_iconst (v := 0) dL_run_2 (by decide) ?_
  refine xw_aload_n dL_run_3 rfl rfl ?_
  refine xw_iload_n dL_run_4 rfl rfl ?_
  refine xw_lload_n dL_run_5 rfl rfl ?_
  refine xw_pc (pc2 := 6) rfl ?_
  by_cases hA : n < 1 ∨ 500 < n
  · have hk : runK σ n = 1 := if_pos hA
    have hs : runP σ n p = (0, σ) := if_neg (by rw [hk]; decide)
    refine xw_callX (q2 := mX9_run) (n2 := 2) (ci := 10) (Bs := [.int n, .long p]) (rest := [.int 0, .ref ao]) (r0 := some (.int 1)) (ctx_runA hX hA) dL_run_6 rfl (o_at h.1) rfl rfl tw_609 tw_610 tw_611 tw_39 tw_612 (by decide +kernel) rfl (Nat.le_of_ble_eq_true rfl) (Nat.le_of_ble_eq_true rfl) (Nat.le_of_ble_eq_true rfl) hX (Or.inl rfl) [] [⟨0, 11, 18, 15⟩] ⟨0, 11, 14, 13⟩ (fun c hc => hc) (fun z hz => nomatch hz) (by decide) (by decide) tw_470 (fun M1 hr hle1 => ⟨?_, fun qa => ?_⟩)
    · obtain rfl := hr
      exact ⟨by rw [hk], ⟨Γ, γ, by rw [hs]; show Rep (grow M 6 99) A Γ σ γ (b + 36 + 2400 * sAl σ); exact (h.gr hw).mono (by omega)⟩, hR.xe xe_grow hF.1, g, sj_xe (A := A) xe_grow hg, fun z => by rw [hk] at z; cases z⟩
    · refine xw_pc (pc2 := 14) rfl ?_
      refine xw_astore (L2 := [(5, .ref qa), (0, .ref (aT A)), (1, .int n), (2, .long p), (4, .ref ao)]) dL_run_14 (by decide) rfl ?_
      refine xw_iconst (v := 1) dL_run_16 (by decide) ?_
      exact xw_iret rfl dL_run_17 ⟨rfl, rfl⟩
  · obtain ⟨o, ho, rfl⟩ := i500 hA
    have h5 := h.2.2.2.2.2.2.2.2.2.2.1.2.2.2.1
    by_cases hB : sAl σ = 5000
    · have hk : runK σ (nI o) = 2 := by unfold runK; rw [if_neg hA, if_pos hB]
      have hs : runP σ (nI o) p = (0, σ) := if_neg (by rw [hk]; decide)
      refine xw_callX (q2 := mX9_run) (n2 := 2) (ci := 10) (Bs := [.int (nI o), .long p]) (rest := [.int 0, .ref ao]) (r0 := some (.int 2)) (ctx_runB hX h ho hB) dL_run_6 rfl (o_at h.1) rfl rfl tw_609 tw_610 tw_611 tw_39 tw_612 (by decide +kernel) rfl (Nat.le_of_ble_eq_true rfl) (Nat.le_of_ble_eq_true rfl) (Nat.le_of_ble_eq_true rfl) hX (Or.inr (Or.inl rfl)) [⟨0, 11, 14, 13⟩] [] ⟨0, 11, 18, 15⟩ (fun c hc => hc) (fun z hz => by rw [List.mem_singleton.mp hz]; exact Or.inr ⟨by decide, rfl, tw_470⟩) (by decide) (by decide) tw_471 (fun M1 hr hle1 => ⟨?_, fun qa => ?_⟩)
      · obtain rfl := hr
        exact ⟨by rw [hk], ⟨Γ, γ, by rw [hs]; show Rep (grow M 6 99) A Γ σ γ (b + 36 + 2400 * sAl σ); exact (h.gr hw).mono (by omega)⟩, hR.xe xe_grow hF.1, g, sj_xe (A := A) xe_grow hg, fun z => by rw [hk] at z; cases z⟩
      · refine xw_pc (pc2 := 18) rfl ?_
        refine xw_astore (L2 := [(5, .ref qa), (0, .ref (aT A)), (1, .int (nI o)), (2, .long p), (4, .ref ao)]) dL_run_18 (by decide) rfl ?_
        refine xw_iconst (v := 2) dL_run_20 (by decide) ?_
        exact xw_iret rfl dL_run_21 ⟨rfl, rfl⟩
    · have hk : runK σ (nI o) = 0 := by unfold runK; rw [if_neg hA, if_neg hB]
      have hs : runP σ (nI o) p = runs o p 0 σ := by unfold runP; rw [if_pos hk, nI_clamp (by omega)]
      refine xw_callV (q2 := mX9_run) (n2 := 2) (ci := 10) (Bs := [.int (nI o), .long p]) (rest := [.int 0, .ref ao]) (ct_run h hb ho (by omega)) dL_run_6 rfl (o_at h.1) rfl rfl tw_609 tw_610 tw_611 tw_39 tw_612 (by decide +kernel) rfl (Nat.le_of_ble_eq_true rfl) (Nat.le_of_ble_eq_true rfl) (Nat.le_of_ble_eq_true rfl) (fun rr M1 hr hle1 => ?_)
      obtain ⟨rfl, γ1, hR1, hE⟩ := hr
      refine xw_i2l dL_run_9 ?_
      refine xw_last dL_run_10 (sj_xe hE hg) in01 ?_
      refine xw_goto (tgt := 22) dL_run_11 (by decide) ?_
      refine xw_iconst (v := 0) dL_run_22 (by decide) ?_
      refine xw_iret rfl dL_run_23 ⟨by rw [hk], ⟨Γ, γ1, by rw [hs]; exact hR1.jp.mono (by omega)⟩, (hR.xe hE hF.1).jp hF, _, by rw [Sj_jput, if_pos rfl], fun _ => ?_⟩
      rw [hs]
      exact if_pos rfl
theorem ctw_result (hX : GX G) (h : Rep M A Γ σ γ b) (hb : b + 300 ≤ 14400000) (hR : RM M m B σ th K V) {g : Nat → Int64} (hg : Sj M ao = some (1, g)) (hF : FX A B ao) {a w : Int32} :
    CTW G 8 180 mL_result hL_result [.ref (aT A), .int a, .int w, .ref ao] M (fun r M1 => r = some (.int (askK (sRs σ).length a w)) ∧ (∃ γ1, Rep M1 A Γ σ γ1 (b + 36)) ∧ RM M1 m B σ th K V ∧ ∃ g, Sj M1 ao = some (1, g) ∧ (askK (sRs σ).length a w = 0 → g 0 = resu σ a.toNatClampNeg w)) := by
  refine ctw_wf fun hw => ?_
  refine ctw_go (by decide +kernel) (Nat.le_of_ble_eq_true rfl) (L := [(0, .ref (aT A)), (1, .int a), (2, .int w), (3, .ref ao)]) rfl ?_
  refine xw_aload_n dL_result_0 rfl rfl ?_
  refine xw_iconst (v := 0) dL_result_1 (by decide) ?_
  refine xw_aload_n dL_result_2 rfl rfl ?_
  refine xw_iload_n dL_result_3 rfl rfl ?_
  refine xw_iload_n dL_result_4 rfl rfl ?_
  obtain ⟨q1, q2, q3, q4, q5, q6⟩ := h.2.2.2.2.2.2.2.2.2.2.1
  by_cases hA : askC (sRs σ).length a w
  · have hk : askK (sRs σ).length a w = 0 := if_pos hA
    obtain ⟨i, hi, rfl⟩ := ask_nI hA (by omega)
    refine xw_callV (q2 := mX9_result) (n2 := 2) (ci := 10) (Bs := [.int (nI i), .int w]) (rest := [.int 0, .ref ao]) (ct_result h (by omega) hi hA.2) dL_result_5 rfl (o_at h.1) rfl rfl tw_749 tw_750 tw_751 tw_39 tw_752 (by decide +kernel) rfl (Nat.le_of_ble_eq_true rfl) (Nat.le_of_ble_eq_true rfl) (Nat.le_of_ble_eq_true rfl) (fun rr M1 hr hle1 => ?_)
    obtain ⟨rfl, hM1⟩ := hr
    obtain rfl := hM1.symm
    refine xw_last dL_result_8 hg in01 ?_
    refine xw_goto (tgt := 16) dL_result_9 (by decide) ?_
    refine xw_iconst (v := 0) dL_result_16 (by decide) ?_
    refine xw_pc (pc2 := 17) rfl ?_
    refine xw_iret rfl dL_result_17 ⟨by rw [hk], ⟨γ, h.jp.mono (by omega)⟩, hR.jp hF, _, by rw [Sj_jput, if_pos rfl], fun _ => ?_⟩
    rw [nI_clamp (by omega)]
    exact if_pos rfl
  · have hk : askK (sRs σ).length a w = 1 := if_neg hA
    refine xw_callX (q2 := mX9_result) (n2 := 2) (ci := 10) (Bs := [.int a, .int w]) (rest := [.int 0, .ref ao]) (r0 := some (.int 1)) (ctx_result hX h (by omega) hA) dL_result_5 rfl (o_at h.1) rfl rfl tw_749 tw_750 tw_751 tw_39 tw_752 (by decide +kernel) rfl (Nat.le_of_ble_eq_true rfl) (Nat.le_of_ble_eq_true rfl) (Nat.le_of_ble_eq_true rfl) hX (Or.inr (Or.inr rfl)) [] [] ⟨0, 9, 12, 25⟩ (fun c hc => hc) (fun z hz => nomatch hz) (by decide) (by decide) tw_748 (fun M1 hr hle1 => ⟨?_, fun qa => ?_⟩)
    · obtain rfl := hr
      exact ⟨by rw [hk], ⟨γ, h.gr hw⟩, hR.xe xe_grow hF.1, g, sj_xe (A := A) xe_grow hg, fun z => by rw [hk] at z; cases z⟩
    · refine xw_pc (pc2 := 12) rfl ?_
      refine xw_astore (L2 := [(4, .ref qa), (0, .ref (aT A)), (1, .int a), (2, .int w), (3, .ref ao)]) dL_result_12 (by decide) rfl ?_
      refine xw_iconst (v := 1) dL_result_14 (by decide) ?_
      exact xw_iret rfl dL_result_15 ⟨rfl, rfl⟩
theorem ctw_context (hX : GX G) (h : Rep M A Γ σ γ b) (hb : b + 300 ≤ 14400000) (hR : RM M m B σ th K V) {g : Nat → Int64} (hg : Sj M ao = some (1, g)) (hF : FX A B ao) {a w : Int32} :
    CTW G 8 180 mL_context hL_context [.ref (aT A), .int a, .int w, .ref ao] M (fun r M1 => r = some (.int (askK (sC σ).length a w)) ∧ (∃ γ1, Rep M1 A Γ σ γ1 (b + 36)) ∧ RM M1 m B σ th K V ∧ ∃ g, Sj M1 ao = some (1, g) ∧ (askK (sC σ).length a w = 0 → g 0 = (ctxt σ a.toNatClampNeg w).toInt64)) := by
  refine ctw_wf fun hw => ?_
  refine ctw_go (by decide +kernel) (Nat.le_of_ble_eq_true rfl) (L := [(0, .ref (aT A)), (1, .int a), (2, .int w), (3, .ref ao)]) rfl ?_
  refine xw_aload_n dL_context_0 rfl rfl ?_
  refine xw_iconst (v := 0) dL_context_1 (by decide) ?_
  refine xw_aload_n dL_context_2 rfl rfl ?_
  refine xw_iload_n dL_context_3 rfl rfl ?_
  refine xw_iload_n dL_context_4 rfl rfl ?_
  have h151 := h.2.2.2.2.1.2.1
  by_cases hA : askC (sC σ).length a w
  · have hk : askK (sC σ).length a w = 0 := if_pos hA
    obtain ⟨i, hi, rfl⟩ := ask_nI hA (by omega)
    refine xw_callV (q2 := mX9_context) (n2 := 2) (ci := 10) (Bs := [.int (nI i), .int w]) (rest := [.int 0, .ref ao]) (ct_context h hi hA.2) dL_context_5 rfl (o_at h.1) rfl rfl tw_772 tw_773 tw_774 tw_39 tw_775 (by decide +kernel) rfl (Nat.le_of_ble_eq_true rfl) (Nat.le_of_ble_eq_true rfl) (Nat.le_of_ble_eq_true rfl) (fun rr M1 hr hle1 => ?_)
    obtain ⟨rfl, hM1⟩ := hr
    obtain rfl := hM1.symm
    refine xw_i2l dL_context_8 ?_
    refine xw_last dL_context_9 hg in01 ?_
    refine xw_goto (tgt := 17) dL_context_10 (by decide) ?_
    refine xw_iconst (v := 0) dL_context_17 (by decide) ?_
    refine xw_iret rfl dL_context_18 ⟨by rw [hk], ⟨γ, h.jp.mono (by omega)⟩, hR.jp hF, _, by rw [Sj_jput, if_pos rfl], fun _ => ?_⟩
    rw [nI_clamp (by omega)]
    exact if_pos rfl
  · have hk : askK (sC σ).length a w = 1 := if_neg hA
    refine xw_callX (q2 := mX9_context) (n2 := 2) (ci := 10) (Bs := [.int a, .int w]) (rest := [.int 0, .ref ao]) (r0 := some (.int 1)) (ctx_context hX h hA) dL_context_5 rfl (o_at h.1) rfl rfl tw_772 tw_773 tw_774 tw_39 tw_775 (by decide +kernel) rfl (Nat.le_of_ble_eq_true rfl) (Nat.le_of_ble_eq_true rfl) (Nat.le_of_ble_eq_true rfl) hX (Or.inr (Or.inr rfl)) [] [] ⟨0, 10, 13, 25⟩ (fun c hc => hc) (fun z hz => nomatch hz) (by decide) (by decide) tw_748 (fun M1 hr hle1 => ⟨?_, fun qa => ?_⟩)
    · obtain rfl := hr
      exact ⟨by rw [hk], ⟨γ, h.gr hw⟩, hR.xe xe_grow hF.1, g, sj_xe (A := A) xe_grow hg, fun z => by rw [hk] at z; cases z⟩
    · refine xw_pc (pc2 := 13) rfl ?_
      refine xw_astore (L2 := [(4, .ref qa), (0, .ref (aT A)), (1, .int a), (2, .int w), (3, .ref ao)]) dL_context_13 (by decide) rfl ?_
      refine xw_iconst (v := 1) dL_context_15 (by decide) ?_
      exact xw_iret rfl dL_context_16 ⟨rfl, rfl⟩
theorem ctw_cell (hX : GX G) (h : Rep M A Γ σ γ b) (hb : b + 300 ≤ 14400000) (hR : RM M m B σ th K V) {g : Nat → Int64} (hg : Sj M ao = some (1, g)) (hF : FX A B ao) {a i w : Int32} :
    CTW G 8 180 mL_cell hL_cell [.ref (aT A), .int a, .int i, .int w, .ref ao] M (fun r M1 => r = some (.int (celK σ a i w)) ∧ (∃ γ1, Rep M1 A Γ σ γ1 (b + 36)) ∧ RM M1 m B σ th K V ∧ ∃ g, Sj M1 ao = some (1, g) ∧ (celK σ a i w = 0 → g 0 = cel σ (8 * a.toNatClampNeg + i.toNatClampNeg) w)) := by
  refine ctw_wf fun hw => ?_
  refine ctw_go (by decide +kernel) (Nat.le_of_ble_eq_true rfl) (L := [(0, .ref (aT A)), (1, .int a), (2, .int i), (3, .int w), (4, .ref ao)]) rfl ?_
  refine xw_aload dL_cell_0 rfl ?_
  refine xw_iconst (v := 0) dL_cell_2 (by decide) ?_
  refine xw_aload_n dL_cell_3 rfl rfl ?_
  refine xw_iload_n dL_cell_4 rfl rfl ?_
  refine xw_iload_n dL_cell_5 rfl rfl ?_
  refine xw_iload_n dL_cell_6 rfl rfl ?_
  refine xw_pc (pc2 := 7) rfl ?_
  by_cases hA : celC σ a i w
  · have hk : celK σ a i w = 0 := if_pos hA
    refine xw_callV (q2 := mX9_cell) (n2 := 3) (ci := 10) (Bs := [.int a, .int i, .int w]) (rest := [.int 0, .ref ao]) (ct_cell h (by rw [cix_eq h.2.2, if_pos ⟨hA.1, hA.2.1⟩]) hA.2.2) dL_cell_7 rfl (o_at h.1) rfl rfl tw_780 tw_781 tw_782 tw_39 tw_783 (by decide +kernel) rfl (Nat.le_of_ble_eq_true rfl) (Nat.le_of_ble_eq_true rfl) (Nat.le_of_ble_eq_true rfl) (fun rr M1 hr hle1 => ?_)
    obtain ⟨rfl, hM1⟩ := hr
    obtain rfl := hM1.symm
    refine xw_last dL_cell_10 hg in01 ?_
    refine xw_goto (tgt := 18) dL_cell_11 (by decide) ?_
    refine xw_iconst (v := 0) dL_cell_18 (by decide) ?_
    refine xw_iret rfl dL_cell_19 ⟨by rw [hk], ⟨γ, h.jp.mono (by omega)⟩, hR.jp hF, _, by rw [Sj_jput, if_pos rfl], fun _ => ?_⟩
    exact if_pos rfl
  · have hk : celK σ a i w = 1 := if_neg hA
    refine xw_callX (q2 := mX9_cell) (n2 := 3) (ci := 10) (Bs := [.int a, .int i, .int w]) (rest := [.int 0, .ref ao]) (r0 := some (.int 1)) (ctx_cell hX h hA) dL_cell_7 rfl (o_at h.1) rfl rfl tw_780 tw_781 tw_782 tw_39 tw_783 (by decide +kernel) rfl (Nat.le_of_ble_eq_true rfl) (Nat.le_of_ble_eq_true rfl) (Nat.le_of_ble_eq_true rfl) hX (Or.inr (Or.inr rfl)) [] [] ⟨0, 11, 14, 25⟩ (fun c hc => hc) (fun z hz => nomatch hz) (by decide) (by decide) tw_748 (fun M1 hr hle1 => ⟨?_, fun qa => ?_⟩)
    · obtain rfl := hr
      exact ⟨by rw [hk], ⟨γ, h.gr hw⟩, hR.xe xe_grow hF.1, g, sj_xe (A := A) xe_grow hg, fun z => by rw [hk] at z; cases z⟩
    · refine xw_pc (pc2 := 14) rfl ?_
      refine xw_astore (L2 := [(5, .ref qa), (0, .ref (aT A)), (1, .int a), (2, .int i), (3, .int w), (4, .ref ao)]) dL_cell_14 (by decide) rfl ?_
      refine xw_iconst (v := 1) dL_cell_16 (by decide) ?_
      exact xw_iret rfl dL_cell_17 ⟨rfl, rfl⟩
end HELP
