/-! THE REFERENCE'S ANSWERS, REFUSALS TOGETHER WITH THE REST; what a call leaves of the number of goings -/
section MSIDE
variable {G : hx_G} {M M1 : hx_S} {A : hA} {σ : hs_S} {m ao : Nat} {B : Nat → Nat} {th : Int32} {K : Nat → Int32} {V : Nat → Int64}
theorem RM.at (h : RM M m B σ th K V) : ∀ H : Heap, Sh G M H → ∃ ws, va_at (gD G) vwCl (m, .inr (11, ws)) H := by
  obtain ⟨ρ, T, hR, -⟩ := h
  exact o_at hR.1
theorem sj_ef {g : Nat → Int64} (e : EF M M1 m B) (hF : FX A B ao) (h : Sj M ao = some (1, g)) : Sj M1 ao = some (1, g) := by
  rw [e.2.2.2 ao (fun k hk z => hF.2 k hk z.symm)]; exact h
theorem sAl_nodS {a nn : Int32} : sAl (nodS σ a nn) = sAl σ := by unfold nodS; split <;> rfl
theorem sAl_arcS {f sd t pt : Int32} : sAl (arcS σ f sd t pt) = sAl σ := by unfold arcS; split <;> rfl
theorem sAl_tokS {k p : Int32} {v : Int64} : sAl (tokS σ k p v) = sAl σ := by
  unfold tokS
  split
  · rw [(come_same _ _ _ _ _).2.2.2.1]; rfl
  · rfl
theorem sAl_clr {L : List ND} : sAl (clr σ L) = sAl σ := rfl
theorem GN.nodS {a nn : Int32} (h : GN σ) : GN (nodS σ a nn) := by
  unfold _root_.Jvm.Pilot.CTokenHouseLaw_law_r5573_f6d1de.nodS
  split
  · exact h.addN
  · exact h
theorem GK.nodS {a nn : Int32} (h : GK σ) (hG : GS σ) : GK (nodS σ a nn) := by
  unfold _root_.Jvm.Pilot.CTokenHouseLaw_law_r5573_f6d1de.nodS
  split
  · exact h.addN hG
  · exact h
theorem ct_mnodU (h : RM M m B σ th K V) (hG : GS σ) {a nn : Int32} : CT G 1 21 mX10_node [.ref m, .int a, .int nn] M (fun r M1 => (∃ v, r = some (.int v) ∧ (nodK σ a = 0 → v = nI (sN σ).length)) ∧ RM M1 m B (nodS σ a nn) (nodK σ a) K V ∧ EF M M1 m B) := by
  by_cases hA : a < 0 ∨ 17 < a
  · have hk : nodK σ a = 1 := if_pos hA
    have hs : nodS σ a nn = σ := if_neg (by rw [hk]; decide)
    rw [hk, hs]
    exact ct_mono (ct_mnodeA h hA) fun r M1 ⟨h1, h2, h3⟩ => ⟨⟨_, h1, fun z => by cases z⟩, h2, h3⟩
  · obtain ⟨o, ho, rfl⟩ := i18 hA
    have h40 := hG.1
    by_cases hB : (sN σ).length = 40 ∨ sB σ ≠ 0
    · have hk : nodK σ (nI o) = 2 := by unfold nodK; rw [if_neg hA, if_pos hB]
      have hs : nodS σ (nI o) nn = σ := if_neg (by rw [hk]; decide)
      rw [hk, hs]
      exact ct_mono (ct_mnodeB h hG ho hB) fun r M1 ⟨h1, h2, h3⟩ => ⟨⟨_, h1, fun z => by cases z⟩, h2, h3⟩
    · have hk : nodK σ (nI o) = 0 := by unfold nodK; rw [if_neg hA, if_neg hB]
      have hs : nodS σ (nI o) nn = addN σ o nn := by unfold nodS; rw [if_pos hk, nI_clamp (by omega)]
      rw [hk, hs]
      exact ct_mono (ct_mnode h hG ho (by omega) (by omega)) fun r M1 ⟨h1, h2, h3⟩ => ⟨⟨_, h1, fun _ => rfl⟩, h2, h3⟩
theorem ct_mrunU (h : RM M m B σ th K V) (hG : GS σ) (hN : GN σ) (hK : GK σ) {n : Int32} {p : Int64} : CT G 8 200 mX10_run [.ref m, .int n, .long p] M (fun r M1 => (∃ v, r = some (.int v) ∧ (runK σ n = 0 → v = nI (runP σ n p).1)) ∧ (∃ K1 V1, RM M1 m B (runP σ n p).2 (runK σ n) K1 V1) ∧ GN (runP σ n p).2 ∧ GK (runP σ n p).2 ∧ EF M M1 m B) := by
  by_cases hA : n < 1 ∨ 500 < n
  · have hk : runK σ n = 1 := if_pos hA
    have hs : runP σ n p = (0, σ) := if_neg (by rw [hk]; decide)
    rw [hk, hs]
    exact ct_mono (ct_mrunA h hA) fun r M1 ⟨h1, h2, h3⟩ => ⟨⟨_, h1, fun z => by cases z⟩, ⟨K, V, h2⟩, hN, hK, h3⟩
  · obtain ⟨o, ho, rfl⟩ := i500 hA
    have h5 := hG.2.2.2.2.2.2.2.2.1.2.2.2.1
    by_cases hB : sAl σ = 5000
    · have hk : runK σ (nI o) = 2 := by unfold runK; rw [if_neg hA, if_pos hB]
      have hs : runP σ (nI o) p = (0, σ) := if_neg (by rw [hk]; decide)
      rw [hk, hs]
      exact ct_mono (ct_mrunB h hG ho hB) fun r M1 ⟨h1, h2, h3⟩ => ⟨⟨_, h1, fun z => by cases z⟩, ⟨K, V, h2⟩, hN, hK, h3⟩
    · have hk : runK σ (nI o) = 0 := by unfold runK; rw [if_neg hA, if_neg hB]
      have hs : runP σ (nI o) p = runs o p 0 σ := by unfold runP; rw [if_pos hk, nI_clamp (by omega)]
      rw [hk, hs]
      exact ct_mono (ct_mrun h hG hN hK ho (by omega)) fun r M1 ⟨h1, h2, h3, h4, h5⟩ => ⟨⟨_, h1, fun _ => rfl⟩, h2, h3, h4, h5⟩
theorem ct_mresU (h : RM M m B σ th K V) (hG : GS σ) {a w : Int32} : CT G 0 0 mX10_result [.ref m, .int a, .int w] M (fun r M1 => (∃ v, r = some (.long v) ∧ (askK (sRs σ).length a w = 0 → v = resu σ a.toNatClampNeg w)) ∧ RM M1 m B σ (askK (sRs σ).length a w) K V ∧ EF M M1 m B) := by
  obtain ⟨q1, q2, q3, q4, q5, q6⟩ := hG.2.2.2.2.2.2.2.2.1
  by_cases hA : askC (sRs σ).length a w
  · have hk : askK (sRs σ).length a w = 0 := if_pos hA
    obtain ⟨i, hi, rfl⟩ := ask_nI hA (by omega)
    rw [hk, nI_clamp (by omega)]
    exact ct_mono (ct_mresult h hi (by omega) hA.2) fun r M1 ⟨h1, h2, h3⟩ => ⟨⟨_, h1, fun _ => rfl⟩, h2, h3⟩
  · have hk : askK (sRs σ).length a w = 1 := if_neg hA
    rw [hk]
    exact ct_mono (ct_mresultN h hA) fun r M1 ⟨h1, h2, h3⟩ => ⟨⟨_, h1, fun z => by cases z⟩, h2, h3⟩
theorem ct_mctxU (h : RM M m B σ th K V) (hG : GS σ) {a w : Int32} : CT G 0 0 mX10_context [.ref m, .int a, .int w] M (fun r M1 => (∃ v, r = some (.int v) ∧ (askK (sC σ).length a w = 0 → v = ctxt σ a.toNatClampNeg w)) ∧ RM M1 m B σ (askK (sC σ).length a w) K V ∧ EF M M1 m B) := by
  have h151 := hG.2.2.1.2.1
  by_cases hA : askC (sC σ).length a w
  · have hk : askK (sC σ).length a w = 0 := if_pos hA
    obtain ⟨i, hi, rfl⟩ := ask_nI hA (by omega)
    rw [hk, nI_clamp (by omega)]
    exact ct_mono (ct_mcontext h hi h151 hA.2) fun r M1 ⟨h1, h2, h3⟩ => ⟨⟨_, h1, fun _ => rfl⟩, h2, h3⟩
  · have hk : askK (sC σ).length a w = 1 := if_neg hA
    rw [hk]
    exact ct_mono (ct_mcontextN h hA) fun r M1 ⟨h1, h2, h3⟩ => ⟨⟨_, h1, fun z => by cases z⟩, h2, h3⟩
theorem ct_mcelU (h : RM M m B σ th K V) (hG : GS σ) {a i w : Int32} : CT G 0 0 mX10_cell [.ref m, .int a, .int i, .int w] M (fun r M1 => (∃ v, r = some (.long v) ∧ (celK σ a i w = 0 → v = cel σ (8 * a.toNatClampNeg + i.toNatClampNeg) w)) ∧ RM M1 m B σ (celK σ a i w) K V ∧ EF M M1 m B) := by
  have h40 := hG.2.2.2.1.1
  by_cases hA : celC σ a i w
  · have hk : celK σ a i w = 0 := if_pos hA
    obtain ⟨⟨a1, a2⟩, ⟨a3, a4⟩, a5⟩ := hA
    obtain ⟨x, hx, rfl, -⟩ := pk_mu a1 (fun z => absurd a2 (Int32.not_lt.mpr z)) (show sA σ < 2 ^ 31 by omega)
    have h8 := hG.2.2.2.1.2.1 x hx
    rw [nI_clamp (by omega)] at a4
    obtain ⟨y, hy, rfl, -⟩ := pk_mu a3 (fun z => absurd a4 (Int32.not_lt.mpr z)) (show sLe σ x < 2 ^ 31 by omega)
    rw [hk, nI_clamp (show x < 2 ^ 31 by omega), nI_clamp (show y < 2 ^ 31 by omega)]
    exact ct_mono (ct_mcell h hG hx hy a5) fun r M1 ⟨h1, h2, h3⟩ => ⟨⟨_, h1, fun _ => rfl⟩, h2, h3⟩
  · have hk : celK σ a i w = 1 := if_neg hA
    rw [hk]
    exact ct_mono (ct_mcellN h hG hA) fun r M1 ⟨h1, h2, h3⟩ => ⟨⟨_, h1, fun z => by cases z⟩, h2, h3⟩
end MSIDE
