/-! THE REFERENCE: gather, comes -/
section GATH
variable {G : hx_G} {M M1 : hx_S} {m : Nat} {B : Nat → Nat} {ρ : hr_S} {σ : hs_S} {T : List TK} {i c o len : Nat}
/-- the tokens that make node i ready in c have gone over -/
def GQ (M : hx_S) (m : Nat) (B : Nat → Nat) (ρ : hr_S) (T : List TK) (i c o len : Nat) (M1 : hx_S) : Prop := ∃ ρ1, RW M1 m B ρ1 ∧ EF M M1 m B ∧ HT ρ1 (Tq T i c (prt o)) ∧ AG [17, 18, 19, 20, 21, 22, 23, 24, 25, 26, 27] ρ ρ1 ∧ ρ1.1 23 = nI (len + 1) ∧ (∀ x, x ≠ len → ρ1.2.1 24 x = ρ.2.1 24 x ∧ ρ1.2.1 25 x = ρ.2.1 25 x) ∧ (ρ1.2.1 24 len = nI i ∧ ρ1.2.1 25 len = nI c) ∧ (∀ x, x < 3 * len → ρ1.2.1 26 x = ρ.2.1 26 x ∧ ρ1.2.2 27 x = ρ.2.2 27 x) ∧ ∀ p v, p < prt o → ((i, c, p), v) ∈ T → ρ1.2.1 26 (3 * len + p) = v.1 ∧ ρ1.2.2 27 (3 * len + p) = v.2
abbrev full (T : List TK) (i c n : Nat) : Prop := ∀ p, p < n → ∃ v, ((i, c, p), v) ∈ T
theorem key_inj {T : List TK} (hn : (T.map (fun x => x.1)).Nodup) {k : N3} {v w : V2} (h1 : (k, v) ∈ T) (h2 : (k, w) ∈ T) : v = w := by
  induction T with
  | nil => cases h1
  | cons y ys ih =>
    have h := List.nodup_cons.mp hn
    rcases List.mem_cons.mp h1 with e1 | e1
    · rcases List.mem_cons.mp h2 with e2 | e2
      · rw [← e1] at e2; exact (Prod.mk.inj e2).2.symm
      · exact absurd (by show y.1 ∈ _; rw [← e1]; exact List.mem_map.mpr ⟨(k, w), e2, rfl⟩) h.1
    · rcases List.mem_cons.mp h2 with e2 | e2
      · exact absurd (by show y.1 ∈ _; rw [← e2]; exact List.mem_map.mpr ⟨(k, v), e1, rfl⟩) h.1
      · exact ih h.2 e1 e2
theorem ct_mgather (hR : RW M m B ρ) (hT : HT ρ T) (hB : TB T) (hnd : (T.map (fun x => x.1)).Nodup) (hop : ρ.2.1 2 i = nI o) (ho : o < 18) (hi : i < 40) (hc : c < 151) (hrd : ρ.1 23 = nI len) (hlen : len ≤ 300) : CT G 1 24 mX10_gather [.ref m, .int (nI i), .int (nI c)] M (fun r M1 => r = none ∧ ((¬ full T i c (prt o) ∧ M1 = M) ∨ (full T i c (prt o) ∧ GQ M m B ρ T i c o len M1))) := by
  obtain ⟨P, hP⟩ : ∃ P : Option Value → hx_S → Prop, P = (fun r M1 => r = none ∧ ((¬ full T i c (prt o) ∧ M1 = M) ∨ (full T i c (prt o) ∧ GQ M m B ρ T i c o len M1))) := ⟨_, rfl⟩
  rw [← hP]
  have hpb := prt_b o
  -- the shifting of the tokens behind k
  have shift : ∀ (ρs : hr_S) (k n p : Nat), n ≤ 300 → ρs.1 17 = nI n → (∀ M2, RW M2 m B (rT ρs k n) → EF M M2 m B → XW G 1 24 mX10_gather [.ref m, .int (nI i), .int (nI c)] M P M2 228 [(6, .int (nI n)), (5, .int (nI k)), (4, .int (nI p)), (3, .int (nI (prt o))), (0, .ref m), (1, .int (nI i)), (2, .int (nI c))] []) → ∀ (q j : Nat) (M' : hx_S), k ≤ j → j + q = n → RW M' m B (rT ρs k j) → EF M M' m B → XW G 1 24 mX10_gather [.ref m, .int (nI i), .int (nI c)] M P M' 133 [(6, .int (nI j)), (5, .int (nI k)), (4, .int (nI p)), (3, .int (nI (prt o))), (0, .ref m), (1, .int (nI i)), (2, .int (nI c))] [] := by
    intro ρs k n p hn h17 fin q
    induction q with
    | zero =>
      intro j M' hkj hj hR' hE'
      obtain rfl : j = n := by omega
      have h17' : (rT ρs k j).1 17 = nI j := (rT_ag ρs k j 17 (by decide)).1.trans h17
      refine xw_iload dX10_gather_133 rfl ?_
      refine xw_aload_n dX10_gather_135 rfl rfl ?_
      refine xw_get (ci := 11) (k := 17) (v := .int ((rT ρs k j).1 17)) dX10_gather_136 hR'.1 rfl inX10 (by decide) tw_808 (Or.inl rfl) rfl ?_
      rw [h17']
      refine xw_icmp_ge (tgt := 228) dX10_gather_139 (by decide) (fun _ => ?_) (fun zz => absurd (nI_le (Nat.le_refl j) (by omega)) zz)
      exact xw_pc rfl (fin M' hR' hE')
    | succ q ih =>
      intro j M' hkj hj hR' hE'
      have h17' : (rT ρs k j).1 17 = nI n := (rT_ag ρs k j 17 (by decide)).1.trans h17
      obtain ⟨R, hRe⟩ : ∃ R, R = rT ρs k j := ⟨_, rfl⟩
      rw [← hRe] at hR' h17'
      have hin : vp_in (nI j) 302 := vp_in_nI (by omega) (by decide)
      have hin1 : vp_in (nI (j + 1)) 302 := vp_in_nI (by omega) (by decide)
      have hj0 : j < 2 ^ 31 := by omega
      have hj1 : j + 1 < 2 ^ 31 := by omega
      refine xw_iload dX10_gather_133 rfl ?_
      refine xw_aload_n dX10_gather_135 rfl rfl ?_
      refine xw_get (ci := 11) (k := 17) (v := .int (R.1 17)) dX10_gather_136 hR'.1 rfl inX10 (by decide) tw_808 (Or.inl rfl) rfl ?_
      rw [h17']
      refine xw_icmp_ge (tgt := 228) dX10_gather_139 (by decide) (fun zz => absurd zz (nI_ge (show j < n by omega) (by omega))) (fun _ => ?_)
      refine xw_aload_n dX10_gather_142 rfl rfl ?_
      refine xw_get (ci := 11) (k := 18) (v := .ref (B 18)) dX10_gather_143 hR'.1 rfl inX10 (by decide) tw_809 (Or.inl rfl) rfl ?_
      refine xw_iload dX10_gather_146 rfl ?_
      refine xw_aload_n dX10_gather_148 rfl rfl ?_
      refine xw_get (ci := 11) (k := 18) (v := .ref (B 18)) dX10_gather_149 hR'.1 rfl inX10 (by decide) tw_809 (Or.inl rfl) rfl ?_
      refine xw_iload dX10_gather_152 rfl ?_
      refine xw_iconst (v := 1) dX10_gather_154 (by decide) ?_
      refine xw_iadd dX10_gather_155 ?_
      refine xw_pc (pc2 := 156) rfl ?_
      rw [nI_1]
      refine xw_iald dX10_gather_156 (hR'.2.1 18 rfl) hin1 ?_
      rw [nI_clamp hj1]
      refine xw_iast dX10_gather_157 (hR'.2.1 18 rfl) hin ?_
      rw [nI_clamp hj0]
      have hR1 : RW (iput M' (B 18) (some (ilen 18, upd (R.2.1 18) j (R.2.1 18 (j + 1))))) m B (rI R 18 (upd (R.2.1 18) j (R.2.1 18 (j + 1)))) := hR'.iset rfl
      have hE1 : EF M (iput M' (B 18) (some (ilen 18, upd (R.2.1 18) j (R.2.1 18 (j + 1))))) m B := hE'.tr (EF.i rfl)
      generalize iput M' (B 18) (some (ilen 18, upd (R.2.1 18) j (R.2.1 18 (j + 1)))) = M1 at hR1 hE1 ⊢
      refine xw_aload_n dX10_gather_158 rfl rfl ?_
      refine xw_get (ci := 11) (k := 19) (v := .ref (B 19)) dX10_gather_159 hR1.1 rfl inX10 (by decide) tw_810 (Or.inl rfl) rfl ?_
      refine xw_iload dX10_gather_162 rfl ?_
      refine xw_aload_n dX10_gather_164 rfl rfl ?_
      refine xw_get (ci := 11) (k := 19) (v := .ref (B 19)) dX10_gather_165 hR1.1 rfl inX10 (by decide) tw_810 (Or.inl rfl) rfl ?_
      refine xw_iload dX10_gather_168 rfl ?_
      refine xw_iconst (v := 1) dX10_gather_170 (by decide) ?_
      refine xw_iadd dX10_gather_171 ?_
      rw [nI_1]
      refine xw_iald dX10_gather_172 (hR1.2.1 19 rfl) hin1 ?_
      rw [nI_clamp hj1]
      refine xw_iast dX10_gather_173 (hR1.2.1 19 rfl) hin ?_
      rw [nI_clamp hj0]
      have hR2 : RW (iput M1 (B 19) (some (ilen 19, upd ((rI R 18 (upd (R.2.1 18) j (R.2.1 18 (j + 1)))).2.1 19) j ((rI R 18 (upd (R.2.1 18) j (R.2.1 18 (j + 1)))).2.1 19 (j + 1))))) m B (rI (rI R 18 (upd (R.2.1 18) j (R.2.1 18 (j + 1)))) 19 (upd ((rI R 18 (upd (R.2.1 18) j (R.2.1 18 (j + 1)))).2.1 19) j ((rI R 18 (upd (R.2.1 18) j (R.2.1 18 (j + 1)))).2.1 19 (j + 1)))) := hR1.iset rfl
      have hE2 : EF M (iput M1 (B 19) (some (ilen 19, upd ((rI R 18 (upd (R.2.1 18) j (R.2.1 18 (j + 1)))).2.1 19) j ((rI R 18 (upd (R.2.1 18) j (R.2.1 18 (j + 1)))).2.1 19 (j + 1))))) m B := hE1.tr (EF.i rfl)
      generalize iput M1 (B 19) (some (ilen 19, upd ((rI R 18 (upd (R.2.1 18) j (R.2.1 18 (j + 1)))).2.1 19) j ((rI R 18 (upd (R.2.1 18) j (R.2.1 18 (j + 1)))).2.1 19 (j + 1)))) = M2 at hR2 hE2 ⊢
      refine xw_aload_n dX10_gather_174 rfl rfl ?_
      refine xw_get (ci := 11) (k := 20) (v := .ref (B 20)) dX10_gather_175 hR2.1 rfl inX10 (by decide) tw_811 (Or.inl rfl) rfl ?_
      refine xw_iload dX10_gather_178 rfl ?_
      refine xw_aload_n dX10_gather_180 rfl rfl ?_
      refine xw_get (ci := 11) (k := 20) (v := .ref (B 20)) dX10_gather_181 hR2.1 rfl inX10 (by decide) tw_811 (Or.inl rfl) rfl ?_
      refine xw_iload dX10_gather_184 rfl ?_
      refine xw_iconst (v := 1) dX10_gather_186 (by decide) ?_
      refine xw_iadd dX10_gather_187 ?_
      refine xw_pc (pc2 := 188) rfl ?_
      rw [nI_1]
      refine xw_iald dX10_gather_188 (hR2.2.1 20 rfl) hin1 ?_
      rw [nI_clamp hj1]
      refine xw_iast dX10_gather_189 (hR2.2.1 20 rfl) hin ?_
      rw [nI_clamp hj0]
      have hR3 : RW (iput M2 (B 20) (some (ilen 20, upd ((rI (rI R 18 (upd (R.2.1 18) j (R.2.1 18 (j + 1)))) 19 (upd ((rI R 18 (upd (R.2.1 18) j (R.2.1 18 (j + 1)))).2.1 19) j ((rI R 18 (upd (R.2.1 18) j (R.2.1 18 (j + 1)))).2.1 19 (j + 1)))).2.1 20) j ((rI (rI R 18 (upd (R.2.1 18) j (R.2.1 18 (j + 1)))) 19 (upd ((rI R 18 (upd (R.2.1 18) j (R.2.1 18 (j + 1)))).2.1 19) j ((rI R 18 (upd (R.2.1 18) j (R.2.1 18 (j + 1)))).2.1 19 (j + 1)))).2.1 20 (j + 1))))) m B (rI (rI (rI R 18 (upd (R.2.1 18) j (R.2.1 18 (j + 1)))) 19 (upd ((rI R 18 (upd (R.2.1 18) j (R.2.1 18 (j + 1)))).2.1 19) j ((rI R 18 (upd (R.2.1 18) j (R.2.1 18 (j + 1)))).2.1 19 (j + 1)))) 20 (upd ((rI (rI R 18 (upd (R.2.1 18) j (R.2.1 18 (j + 1)))) 19 (upd ((rI R 18 (upd (R.2.1 18) j (R.2.1 18 (j + 1)))).2.1 19) j ((rI R 18 (upd (R.2.1 18) j (R.2.1 18 (j + 1)))).2.1 19 (j + 1)))).2.1 20) j ((rI (rI R 18 (upd (R.2.1 18) j (R.2.1 18 (j + 1)))) 19 (upd ((rI R 18 (upd (R.2.1 18) j (R.2.1 18 (j + 1)))).2.1 19) j ((rI R 18 (upd (R.2.1 18) j (R.2.1 18 (j + 1)))).2.1 19 (j + 1)))).2.1 20 (j + 1)))) := hR2.iset rfl
      have hE3 : EF M (iput M2 (B 20) (some (ilen 20, upd ((rI (rI R 18 (upd (R.2.1 18) j (R.2.1 18 (j + 1)))) 19 (upd ((rI R 18 (upd (R.2.1 18) j (R.2.1 18 (j + 1)))).2.1 19) j ((rI R 18 (upd (R.2.1 18) j (R.2.1 18 (j + 1)))).2.1 19 (j + 1)))).2.1 20) j ((rI (rI R 18 (upd (R.2.1 18) j (R.2.1 18 (j + 1)))) 19 (upd ((rI R 18 (upd (R.2.1 18) j (R.2.1 18 (j + 1)))).2.1 19) j ((rI R 18 (upd (R.2.1 18) j (R.2.1 18 (j + 1)))).2.1 19 (j + 1)))).2.1 20 (j + 1))))) m B := hE2.tr (EF.i rfl)
      generalize iput M2 (B 20) (some (ilen 20, upd ((rI (rI R 18 (upd (R.2.1 18) j (R.2.1 18 (j + 1)))) 19 (upd ((rI R 18 (upd (R.2.1 18) j (R.2.1 18 (j + 1)))).2.1 19) j ((rI R 18 (upd (R.2.1 18) j (R.2.1 18 (j + 1)))).2.1 19 (j + 1)))).2.1 20) j ((rI (rI R 18 (upd (R.2.1 18) j (R.2.1 18 (j + 1)))) 19 (upd ((rI R 18 (upd (R.2.1 18) j (R.2.1 18 (j + 1)))).2.1 19) j ((rI R 18 (upd (R.2.1 18) j (R.2.1 18 (j + 1)))).2.1 19 (j + 1)))).2.1 20 (j + 1)))) = M3 at hR3 hE3 ⊢
      refine xw_aload_n dX10_gather_190 rfl rfl ?_
      refine xw_get (ci := 11) (k := 21) (v := .ref (B 21)) dX10_gather_191 hR3.1 rfl inX10 (by decide) tw_812 (Or.inl rfl) rfl ?_
      refine xw_iload dX10_gather_194 rfl ?_
      refine xw_aload_n dX10_gather_196 rfl rfl ?_
      refine xw_get (ci := 11) (k := 21) (v := .ref (B 21)) dX10_gather_197 hR3.1 rfl inX10 (by decide) tw_812 (Or.inl rfl) rfl ?_
      refine xw_iload dX10_gather_200 rfl ?_
      refine xw_iconst (v := 1) dX10_gather_202 (by decide) ?_
      refine xw_iadd dX10_gather_203 ?_
      rw [nI_1]
      refine xw_iald dX10_gather_204 (hR3.2.1 21 rfl) hin1 ?_
      rw [nI_clamp hj1]
      refine xw_iast dX10_gather_205 (hR3.2.1 21 rfl) hin ?_
      rw [nI_clamp hj0]
      have hR4 : RW (iput M3 (B 21) (some (ilen 21, upd ((rI (rI (rI R 18 (upd (R.2.1 18) j (R.2.1 18 (j + 1)))) 19 (upd ((rI R 18 (upd (R.2.1 18) j (R.2.1 18 (j + 1)))).2.1 19) j ((rI R 18 (upd (R.2.1 18) j (R.2.1 18 (j + 1)))).2.1 19 (j + 1)))) 20 (upd ((rI (rI R 18 (upd (R.2.1 18) j (R.2.1 18 (j + 1)))) 19 (upd ((rI R 18 (upd (R.2.1 18) j (R.2.1 18 (j + 1)))).2.1 19) j ((rI R 18 (upd (R.2.1 18) j (R.2.1 18 (j + 1)))).2.1 19 (j + 1)))).2.1 20) j ((rI (rI R 18 (upd (R.2.1 18) j (R.2.1 18 (j + 1)))) 19 (upd ((rI R 18 (upd (R.2.1 18) j (R.2.1 18 (j + 1)))).2.1 19) j ((rI R 18 (upd (R.2.1 18) j (R.2.1 18 (j + 1)))).2.1 19 (j + 1)))).2.1 20 (j + 1)))).2.1 21) j ((rI (rI (rI R 18 (upd (R.2.1 18) j (R.2.1 18 (j + 1)))) 19 (upd ((rI R 18 (upd (R.2.1 18) j (R.2.1 18 (j + 1)))).2.1 19) j ((rI R 18 (upd (R.2.1 18) j (R.2.1 18 (j + 1)))).2.1 19 (j + 1)))) 20 (upd ((rI (rI R 18 (upd (R.2.1 18) j (R.2.1 18 (j + 1)))) 19 (upd ((rI R 18 (upd (R.2.1 18) j (R.2.1 18 (j + 1)))).2.1 19) j ((rI R 18 (upd (R.2.1 18) j (R.2.1 18 (j + 1)))).2.1 19 (j + 1)))).2.1 20) j ((rI (rI R 18 (upd (R.2.1 18) j (R.2.1 18 (j + 1)))) 19 (upd ((rI R 18 (upd (R.2.1 18) j (R.2.1 18 (j + 1)))).2.1 19) j ((rI R 18 (upd (R.2.1 18) j (R.2.1 18 (j + 1)))).2.1 19 (j + 1)))).2.1 20 (j + 1)))).2.1 21 (j + 1))))) m B (rI (rI (rI (rI R 18 (upd (R.2.1 18) j (R.2.1 18 (j + 1)))) 19 (upd ((rI R 18 (upd (R.2.1 18) j (R.2.1 18 (j + 1)))).2.1 19) j ((rI R 18 (upd (R.2.1 18) j (R.2.1 18 (j + 1)))).2.1 19 (j + 1)))) 20 (upd ((rI (rI R 18 (upd (R.2.1 18) j (R.2.1 18 (j + 1)))) 19 (upd ((rI R 18 (upd (R.2.1 18) j (R.2.1 18 (j + 1)))).2.1 19) j ((rI R 18 (upd (R.2.1 18) j (R.2.1 18 (j + 1)))).2.1 19 (j + 1)))).2.1 20) j ((rI (rI R 18 (upd (R.2.1 18) j (R.2.1 18 (j + 1)))) 19 (upd ((rI R 18 (upd (R.2.1 18) j (R.2.1 18 (j + 1)))).2.1 19) j ((rI R 18 (upd (R.2.1 18) j (R.2.1 18 (j + 1)))).2.1 19 (j + 1)))).2.1 20 (j + 1)))) 21 (upd ((rI (rI (rI R 18 (upd (R.2.1 18) j (R.2.1 18 (j + 1)))) 19 (upd ((rI R 18 (upd (R.2.1 18) j (R.2.1 18 (j + 1)))).2.1 19) j ((rI R 18 (upd (R.2.1 18) j (R.2.1 18 (j + 1)))).2.1 19 (j + 1)))) 20 (upd ((rI (rI R 18 (upd (R.2.1 18) j (R.2.1 18 (j + 1)))) 19 (upd ((rI R 18 (upd (R.2.1 18) j (R.2.1 18 (j + 1)))).2.1 19) j ((rI R 18 (upd (R.2.1 18) j (R.2.1 18 (j + 1)))).2.1 19 (j + 1)))).2.1 20) j ((rI (rI R 18 (upd (R.2.1 18) j (R.2.1 18 (j + 1)))) 19 (upd ((rI R 18 (upd (R.2.1 18) j (R.2.1 18 (j + 1)))).2.1 19) j ((rI R 18 (upd (R.2.1 18) j (R.2.1 18 (j + 1)))).2.1 19 (j + 1)))).2.1 20 (j + 1)))).2.1 21) j ((rI (rI (rI R 18 (upd (R.2.1 18) j (R.2.1 18 (j + 1)))) 19 (upd ((rI R 18 (upd (R.2.1 18) j (R.2.1 18 (j + 1)))).2.1 19) j ((rI R 18 (upd (R.2.1 18) j (R.2.1 18 (j + 1)))).2.1 19 (j + 1)))) 20 (upd ((rI (rI R 18 (upd (R.2.1 18) j (R.2.1 18 (j + 1)))) 19 (upd ((rI R 18 (upd (R.2.1 18) j (R.2.1 18 (j + 1)))).2.1 19) j ((rI R 18 (upd (R.2.1 18) j (R.2.1 18 (j + 1)))).2.1 19 (j + 1)))).2.1 20) j ((rI (rI R 18 (upd (R.2.1 18) j (R.2.1 18 (j + 1)))) 19 (upd ((rI R 18 (upd (R.2.1 18) j (R.2.1 18 (j + 1)))).2.1 19) j ((rI R 18 (upd (R.2.1 18) j (R.2.1 18 (j + 1)))).2.1 19 (j + 1)))).2.1 20 (j + 1)))).2.1 21 (j + 1)))) := hR3.iset rfl
      have hE4 : EF M (iput M3 (B 21) (some (ilen 21, upd ((rI (rI (rI R 18 (upd (R.2.1 18) j (R.2.1 18 (j + 1)))) 19 (upd ((rI R 18 (upd (R.2.1 18) j (R.2.1 18 (j + 1)))).2.1 19) j ((rI R 18 (upd (R.2.1 18) j (R.2.1 18 (j + 1)))).2.1 19 (j + 1)))) 20 (upd ((rI (rI R 18 (upd (R.2.1 18) j (R.2.1 18 (j + 1)))) 19 (upd ((rI R 18 (upd (R.2.1 18) j (R.2.1 18 (j + 1)))).2.1 19) j ((rI R 18 (upd (R.2.1 18) j (R.2.1 18 (j + 1)))).2.1 19 (j + 1)))).2.1 20) j ((rI (rI R 18 (upd (R.2.1 18) j (R.2.1 18 (j + 1)))) 19 (upd ((rI R 18 (upd (R.2.1 18) j (R.2.1 18 (j + 1)))).2.1 19) j ((rI R 18 (upd (R.2.1 18) j (R.2.1 18 (j + 1)))).2.1 19 (j + 1)))).2.1 20 (j + 1)))).2.1 21) j ((rI (rI (rI R 18 (upd (R.2.1 18) j (R.2.1 18 (j + 1)))) 19 (upd ((rI R 18 (upd (R.2.1 18) j (R.2.1 18 (j + 1)))).2.1 19) j ((rI R 18 (upd (R.2.1 18) j (R.2.1 18 (j + 1)))).2.1 19 (j + 1)))) 20 (upd ((rI (rI R 18 (upd (R.2.1 18) j (R.2.1 18 (j + 1)))) 19 (upd ((rI R 18 (upd (R.2.1 18) j (R.2.1 18 (j + 1)))).2.1 19) j ((rI R 18 (upd (R.2.1 18) j (R.2.1 18 (j + 1)))).2.1 19 (j + 1)))).2.1 20) j ((rI (rI R 18 (upd (R.2.1 18) j (R.2.1 18 (j + 1)))) 19 (upd ((rI R 18 (upd (R.2.1 18) j (R.2.1 18 (j + 1)))).2.1 19) j ((rI R 18 (upd (R.2.1 18) j (R.2.1 18 (j + 1)))).2.1 19 (j + 1)))).2.1 20 (j + 1)))).2.1 21 (j + 1))))) m B := hE3.tr (EF.i rfl)
      generalize iput M3 (B 21) (some (ilen 21, upd ((rI (rI (rI R 18 (upd (R.2.1 18) j (R.2.1 18 (j + 1)))) 19 (upd ((rI R 18 (upd (R.2.1 18) j (R.2.1 18 (j + 1)))).2.1 19) j ((rI R 18 (upd (R.2.1 18) j (R.2.1 18 (j + 1)))).2.1 19 (j + 1)))) 20 (upd ((rI (rI R 18 (upd (R.2.1 18) j (R.2.1 18 (j + 1)))) 19 (upd ((rI R 18 (upd (R.2.1 18) j (R.2.1 18 (j + 1)))).2.1 19) j ((rI R 18 (upd (R.2.1 18) j (R.2.1 18 (j + 1)))).2.1 19 (j + 1)))).2.1 20) j ((rI (rI R 18 (upd (R.2.1 18) j (R.2.1 18 (j + 1)))) 19 (upd ((rI R 18 (upd (R.2.1 18) j (R.2.1 18 (j + 1)))).2.1 19) j ((rI R 18 (upd (R.2.1 18) j (R.2.1 18 (j + 1)))).2.1 19 (j + 1)))).2.1 20 (j + 1)))).2.1 21) j ((rI (rI (rI R 18 (upd (R.2.1 18) j (R.2.1 18 (j + 1)))) 19 (upd ((rI R 18 (upd (R.2.1 18) j (R.2.1 18 (j + 1)))).2.1 19) j ((rI R 18 (upd (R.2.1 18) j (R.2.1 18 (j + 1)))).2.1 19 (j + 1)))) 20 (upd ((rI (rI R 18 (upd (R.2.1 18) j (R.2.1 18 (j + 1)))) 19 (upd ((rI R 18 (upd (R.2.1 18) j (R.2.1 18 (j + 1)))).2.1 19) j ((rI R 18 (upd (R.2.1 18) j (R.2.1 18 (j + 1)))).2.1 19 (j + 1)))).2.1 20) j ((rI (rI R 18 (upd (R.2.1 18) j (R.2.1 18 (j + 1)))) 19 (upd ((rI R 18 (upd (R.2.1 18) j (R.2.1 18 (j + 1)))).2.1 19) j ((rI R 18 (upd (R.2.1 18) j (R.2.1 18 (j + 1)))).2.1 19 (j + 1)))).2.1 20 (j + 1)))).2.1 21 (j + 1)))) = M4 at hR4 hE4 ⊢
      refine xw_aload_n dX10_gather_206 rfl rfl ?_
      refine xw_get (ci := 11) (k := 22) (v := .ref (B 22)) dX10_gather_207 hR4.1 rfl inX10 (by decide) tw_813 (Or.inl rfl) rfl ?_
      refine xw_iload dX10_gather_210 rfl ?_
      refine xw_aload_n dX10_gather_212 rfl rfl ?_
      refine xw_get (ci := 11) (k := 22) (v := .ref (B 22)) dX10_gather_213 hR4.1 rfl inX10 (by decide) tw_813 (Or.inl rfl) rfl ?_
      refine xw_iload dX10_gather_216 rfl ?_
      refine xw_iconst (v := 1) dX10_gather_218 (by decide) ?_
      refine xw_iadd dX10_gather_219 ?_
      refine xw_pc (pc2 := 220) rfl ?_
      rw [nI_1]
      refine xw_lald dX10_gather_220 (hR4.2.2.1 22 rfl) hin1 ?_
      rw [nI_clamp hj1]
      refine xw_last dX10_gather_221 (hR4.2.2.1 22 rfl) hin ?_
      rw [nI_clamp hj0]
      have hR5 : RW (jput M4 (B 22) (some (jlen 22, vp_updL ((rI (rI (rI (rI R 18 (upd (R.2.1 18) j (R.2.1 18 (j + 1)))) 19 (upd ((rI R 18 (upd (R.2.1 18) j (R.2.1 18 (j + 1)))).2.1 19) j ((rI R 18 (upd (R.2.1 18) j (R.2.1 18 (j + 1)))).2.1 19 (j + 1)))) 20 (upd ((rI (rI R 18 (upd (R.2.1 18) j (R.2.1 18 (j + 1)))) 19 (upd ((rI R 18 (upd (R.2.1 18) j (R.2.1 18 (j + 1)))).2.1 19) j ((rI R 18 (upd (R.2.1 18) j (R.2.1 18 (j + 1)))).2.1 19 (j + 1)))).2.1 20) j ((rI (rI R 18 (upd (R.2.1 18) j (R.2.1 18 (j + 1)))) 19 (upd ((rI R 18 (upd (R.2.1 18) j (R.2.1 18 (j + 1)))).2.1 19) j ((rI R 18 (upd (R.2.1 18) j (R.2.1 18 (j + 1)))).2.1 19 (j + 1)))).2.1 20 (j + 1)))) 21 (upd ((rI (rI (rI R 18 (upd (R.2.1 18) j (R.2.1 18 (j + 1)))) 19 (upd ((rI R 18 (upd (R.2.1 18) j (R.2.1 18 (j + 1)))).2.1 19) j ((rI R 18 (upd (R.2.1 18) j (R.2.1 18 (j + 1)))).2.1 19 (j + 1)))) 20 (upd ((rI (rI R 18 (upd (R.2.1 18) j (R.2.1 18 (j + 1)))) 19 (upd ((rI R 18 (upd (R.2.1 18) j (R.2.1 18 (j + 1)))).2.1 19) j ((rI R 18 (upd (R.2.1 18) j (R.2.1 18 (j + 1)))).2.1 19 (j + 1)))).2.1 20) j ((rI (rI R 18 (upd (R.2.1 18) j (R.2.1 18 (j + 1)))) 19 (upd ((rI R 18 (upd (R.2.1 18) j (R.2.1 18 (j + 1)))).2.1 19) j ((rI R 18 (upd (R.2.1 18) j (R.2.1 18 (j + 1)))).2.1 19 (j + 1)))).2.1 20 (j + 1)))).2.1 21) j ((rI (rI (rI R 18 (upd (R.2.1 18) j (R.2.1 18 (j + 1)))) 19 (upd ((rI R 18 (upd (R.2.1 18) j (R.2.1 18 (j + 1)))).2.1 19) j ((rI R 18 (upd (R.2.1 18) j (R.2.1 18 (j + 1)))).2.1 19 (j + 1)))) 20 (upd ((rI (rI R 18 (upd (R.2.1 18) j (R.2.1 18 (j + 1)))) 19 (upd ((rI R 18 (upd (R.2.1 18) j (R.2.1 18 (j + 1)))).2.1 19) j ((rI R 18 (upd (R.2.1 18) j (R.2.1 18 (j + 1)))).2.1 19 (j + 1)))).2.1 20) j ((rI (rI R 18 (upd (R.2.1 18) j (R.2.1 18 (j + 1)))) 19 (upd ((rI R 18 (upd (R.2.1 18) j (R.2.1 18 (j + 1)))).2.1 19) j ((rI R 18 (upd (R.2.1 18) j (R.2.1 18 (j + 1)))).2.1 19 (j + 1)))).2.1 20 (j + 1)))).2.1 21 (j + 1)))).2.2 22) j ((rI (rI (rI (rI R 18 (upd (R.2.1 18) j (R.2.1 18 (j + 1)))) 19 (upd ((rI R 18 (upd (R.2.1 18) j (R.2.1 18 (j + 1)))).2.1 19) j ((rI R 18 (upd (R.2.1 18) j (R.2.1 18 (j + 1)))).2.1 19 (j + 1)))) 20 (upd ((rI (rI R 18 (upd (R.2.1 18) j (R.2.1 18 (j + 1)))) 19 (upd ((rI R 18 (upd (R.2.1 18) j (R.2.1 18 (j + 1)))).2.1 19) j ((rI R 18 (upd (R.2.1 18) j (R.2.1 18 (j + 1)))).2.1 19 (j + 1)))).2.1 20) j ((rI (rI R 18 (upd (R.2.1 18) j (R.2.1 18 (j + 1)))) 19 (upd ((rI R 18 (upd (R.2.1 18) j (R.2.1 18 (j + 1)))).2.1 19) j ((rI R 18 (upd (R.2.1 18) j (R.2.1 18 (j + 1)))).2.1 19 (j + 1)))).2.1 20 (j + 1)))) 21 (upd ((rI (rI (rI R 18 (upd (R.2.1 18) j (R.2.1 18 (j + 1)))) 19 (upd ((rI R 18 (upd (R.2.1 18) j (R.2.1 18 (j + 1)))).2.1 19) j ((rI R 18 (upd (R.2.1 18) j (R.2.1 18 (j + 1)))).2.1 19 (j + 1)))) 20 (upd ((rI (rI R 18 (upd (R.2.1 18) j (R.2.1 18 (j + 1)))) 19 (upd ((rI R 18 (upd (R.2.1 18) j (R.2.1 18 (j + 1)))).2.1 19) j ((rI R 18 (upd (R.2.1 18) j (R.2.1 18 (j + 1)))).2.1 19 (j + 1)))).2.1 20) j ((rI (rI R 18 (upd (R.2.1 18) j (R.2.1 18 (j + 1)))) 19 (upd ((rI R 18 (upd (R.2.1 18) j (R.2.1 18 (j + 1)))).2.1 19) j ((rI R 18 (upd (R.2.1 18) j (R.2.1 18 (j + 1)))).2.1 19 (j + 1)))).2.1 20 (j + 1)))).2.1 21) j ((rI (rI (rI R 18 (upd (R.2.1 18) j (R.2.1 18 (j + 1)))) 19 (upd ((rI R 18 (upd (R.2.1 18) j (R.2.1 18 (j + 1)))).2.1 19) j ((rI R 18 (upd (R.2.1 18) j (R.2.1 18 (j + 1)))).2.1 19 (j + 1)))) 20 (upd ((rI (rI R 18 (upd (R.2.1 18) j (R.2.1 18 (j + 1)))) 19 (upd ((rI R 18 (upd (R.2.1 18) j (R.2.1 18 (j + 1)))).2.1 19) j ((rI R 18 (upd (R.2.1 18) j (R.2.1 18 (j + 1)))).2.1 19 (j + 1)))).2.1 20) j ((rI (rI R 18 (upd (R.2.1 18) j (R.2.1 18 (j + 1)))) 19 (upd ((rI R 18 (upd (R.2.1 18) j (R.2.1 18 (j + 1)))).2.1 19) j ((rI R 18 (upd (R.2.1 18) j (R.2.1 18 (j + 1)))).2.1 19 (j + 1)))).2.1 20 (j + 1)))).2.1 21 (j + 1)))).2.2 22 (j + 1))))) m B (rJ (rI (rI (rI (rI R 18 (upd (R.2.1 18) j (R.2.1 18 (j + 1)))) 19 (upd ((rI R 18 (upd (R.2.1 18) j (R.2.1 18 (j + 1)))).2.1 19) j ((rI R 18 (upd (R.2.1 18) j (R.2.1 18 (j + 1)))).2.1 19 (j + 1)))) 20 (upd ((rI (rI R 18 (upd (R.2.1 18) j (R.2.1 18 (j + 1)))) 19 (upd ((rI R 18 (upd (R.2.1 18) j (R.2.1 18 (j + 1)))).2.1 19) j ((rI R 18 (upd (R.2.1 18) j (R.2.1 18 (j + 1)))).2.1 19 (j + 1)))).2.1 20) j ((rI (rI R 18 (upd (R.2.1 18) j (R.2.1 18 (j + 1)))) 19 (upd ((rI R 18 (upd (R.2.1 18) j (R.2.1 18 (j + 1)))).2.1 19) j ((rI R 18 (upd (R.2.1 18) j (R.2.1 18 (j + 1)))).2.1 19 (j + 1)))).2.1 20 (j + 1)))) 21 (upd ((rI (rI (rI R 18 (upd (R.2.1 18) j (R.2.1 18 (j + 1)))) 19 (upd ((rI R 18 (upd (R.2.1 18) j (R.2.1 18 (j + 1)))).2.1 19) j ((rI R 18 (upd (R.2.1 18) j (R.2.1 18 (j + 1)))).2.1 19 (j + 1)))) 20 (upd ((rI (rI R 18 (upd (R.2.1 18) j (R.2.1 18 (j + 1)))) 19 (upd ((rI R 18 (upd (R.2.1 18) j (R.2.1 18 (j + 1)))).2.1 19) j ((rI R 18 (upd (R.2.1 18) j (R.2.1 18 (j + 1)))).2.1 19 (j + 1)))).2.1 20) j ((rI (rI R 18 (upd (R.2.1 18) j (R.2.1 18 (j + 1)))) 19 (upd ((rI R 18 (upd (R.2.1 18) j (R.2.1 18 (j + 1)))).2.1 19) j ((rI R 18 (upd (R.2.1 18) j (R.2.1 18 (j + 1)))).2.1 19 (j + 1)))).2.1 20 (j + 1)))).2.1 21) j ((rI (rI (rI R 18 (upd (R.2.1 18) j (R.2.1 18 (j + 1)))) 19 (upd ((rI R 18 (upd (R.2.1 18) j (R.2.1 18 (j + 1)))).2.1 19) j ((rI R 18 (upd (R.2.1 18) j (R.2.1 18 (j + 1)))).2.1 19 (j + 1)))) 20 (upd ((rI (rI R 18 (upd (R.2.1 18) j (R.2.1 18 (j + 1)))) 19 (upd ((rI R 18 (upd (R.2.1 18) j (R.2.1 18 (j + 1)))).2.1 19) j ((rI R 18 (upd (R.2.1 18) j (R.2.1 18 (j + 1)))).2.1 19 (j + 1)))).2.1 20) j ((rI (rI R 18 (upd (R.2.1 18) j (R.2.1 18 (j + 1)))) 19 (upd ((rI R 18 (upd (R.2.1 18) j (R.2.1 18 (j + 1)))).2.1 19) j ((rI R 18 (upd (R.2.1 18) j (R.2.1 18 (j + 1)))).2.1 19 (j + 1)))).2.1 20 (j + 1)))).2.1 21 (j + 1)))) 22 (vp_updL ((rI (rI (rI (rI R 18 (upd (R.2.1 18) j (R.2.1 18 (j + 1)))) 19 (upd ((rI R 18 (upd (R.2.1 18) j (R.2.1 18 (j + 1)))).2.1 19) j ((rI R 18 (upd (R.2.1 18) j (R.2.1 18 (j + 1)))).2.1 19 (j + 1)))) 20 (upd ((rI (rI R 18 (upd (R.2.1 18) j (R.2.1 18 (j + 1)))) 19 (upd ((rI R 18 (upd (R.2.1 18) j (R.2.1 18 (j + 1)))).2.1 19) j ((rI R 18 (upd (R.2.1 18) j (R.2.1 18 (j + 1)))).2.1 19 (j + 1)))).2.1 20) j ((rI (rI R 18 (upd (R.2.1 18) j (R.2.1 18 (j + 1)))) 19 (upd ((rI R 18 (upd (R.2.1 18) j (R.2.1 18 (j + 1)))).2.1 19) j ((rI R 18 (upd (R.2.1 18) j (R.2.1 18 (j + 1)))).2.1 19 (j + 1)))).2.1 20 (j + 1)))) 21 (upd ((rI (rI (rI R 18 (upd (R.2.1 18) j (R.2.1 18 (j + 1)))) 19 (upd ((rI R 18 (upd (R.2.1 18) j (R.2.1 18 (j + 1)))).2.1 19) j ((rI R 18 (upd (R.2.1 18) j (R.2.1 18 (j + 1)))).2.1 19 (j + 1)))) 20 (upd ((rI (rI R 18 (upd (R.2.1 18) j (R.2.1 18 (j + 1)))) 19 (upd ((rI R 18 (upd (R.2.1 18) j (R.2.1 18 (j + 1)))).2.1 19) j ((rI R 18 (upd (R.2.1 18) j (R.2.1 18 (j + 1)))).2.1 19 (j + 1)))).2.1 20) j ((rI (rI R 18 (upd (R.2.1 18) j (R.2.1 18 (j + 1)))) 19 (upd ((rI R 18 (upd (R.2.1 18) j (R.2.1 18 (j + 1)))).2.1 19) j ((rI R 18 (upd (R.2.1 18) j (R.2.1 18 (j + 1)))).2.1 19 (j + 1)))).2.1 20 (j + 1)))).2.1 21) j ((rI (rI (rI R 18 (upd (R.2.1 18) j (R.2.1 18 (j + 1)))) 19 (upd ((rI R 18 (upd (R.2.1 18) j (R.2.1 18 (j + 1)))).2.1 19) j ((rI R 18 (upd (R.2.1 18) j (R.2.1 18 (j + 1)))).2.1 19 (j + 1)))) 20 (upd ((rI (rI R 18 (upd (R.2.1 18) j (R.2.1 18 (j + 1)))) 19 (upd ((rI R 18 (upd (R.2.1 18) j (R.2.1 18 (j + 1)))).2.1 19) j ((rI R 18 (upd (R.2.1 18) j (R.2.1 18 (j + 1)))).2.1 19 (j + 1)))).2.1 20) j ((rI (rI R 18 (upd (R.2.1 18) j (R.2.1 18 (j + 1)))) 19 (upd ((rI R 18 (upd (R.2.1 18) j (R.2.1 18 (j + 1)))).2.1 19) j ((rI R 18 (upd (R.2.1 18) j (R.2.1 18 (j + 1)))).2.1 19 (j + 1)))).2.1 20 (j + 1)))).2.1 21 (j + 1)))).2.2 22) j ((rI (rI (rI (rI R 18 (upd (R.2.1 18) j (R.2.1 18 (j + 1)))) 19 (upd ((rI R 18 (upd (R.2.1 18) j (R.2.1 18 (j + 1)))).2.1 19) j ((rI R 18 (upd (R.2.1 18) j (R.2.1 18 (j + 1)))).2.1 19 (j + 1)))) 20 (upd ((rI (rI R 18 (upd (R.2.1 18) j (R.2.1 18 (j + 1)))) 19 (upd ((rI R 18 (upd (R.2.1 18) j (R.2.1 18 (j + 1)))).2.1 19) j ((rI R 18 (upd (R.2.1 18) j (R.2.1 18 (j + 1)))).2.1 19 (j + 1)))).2.1 20) j ((rI (rI R 18 (upd (R.2.1 18) j (R.2.1 18 (j + 1)))) 19 (upd ((rI R 18 (upd (R.2.1 18) j (R.2.1 18 (j + 1)))).2.1 19) j ((rI R 18 (upd (R.2.1 18) j (R.2.1 18 (j + 1)))).2.1 19 (j + 1)))).2.1 20 (j + 1)))) 21 (upd ((rI (rI (rI R 18 (upd (R.2.1 18) j (R.2.1 18 (j + 1)))) 19 (upd ((rI R 18 (upd (R.2.1 18) j (R.2.1 18 (j + 1)))).2.1 19) j ((rI R 18 (upd (R.2.1 18) j (R.2.1 18 (j + 1)))).2.1 19 (j + 1)))) 20 (upd ((rI (rI R 18 (upd (R.2.1 18) j (R.2.1 18 (j + 1)))) 19 (upd ((rI R 18 (upd (R.2.1 18) j (R.2.1 18 (j + 1)))).2.1 19) j ((rI R 18 (upd (R.2.1 18) j (R.2.1 18 (j + 1)))).2.1 19 (j + 1)))).2.1 20) j ((rI (rI R 18 (upd (R.2.1 18) j (R.2.1 18 (j + 1)))) 19 (upd ((rI R 18 (upd (R.2.1 18) j (R.2.1 18 (j + 1)))).2.1 19) j ((rI R 18 (upd (R.2.1 18) j (R.2.1 18 (j + 1)))).2.1 19 (j + 1)))).2.1 20 (j + 1)))).2.1 21) j ((rI (rI (rI R 18 (upd (R.2.1 18) j (R.2.1 18 (j + 1)))) 19 (upd ((rI R 18 (upd (R.2.1 18) j (R.2.1 18 (j + 1)))).2.1 19) j ((rI R 18 (upd (R.2.1 18) j (R.2.1 18 (j + 1)))).2.1 19 (j + 1)))) 20 (upd ((rI (rI R 18 (upd (R.2.1 18) j (R.2.1 18 (j + 1)))) 19 (upd ((rI R 18 (upd (R.2.1 18) j (R.2.1 18 (j + 1)))).2.1 19) j ((rI R 18 (upd (R.2.1 18) j (R.2.1 18 (j + 1)))).2.1 19 (j + 1)))).2.1 20) j ((rI (rI R 18 (upd (R.2.1 18) j (R.2.1 18 (j + 1)))) 19 (upd ((rI R 18 (upd (R.2.1 18) j (R.2.1 18 (j + 1)))).2.1 19) j ((rI R 18 (upd (R.2.1 18) j (R.2.1 18 (j + 1)))).2.1 19 (j + 1)))).2.1 20 (j + 1)))).2.1 21 (j + 1)))).2.2 22 (j + 1)))) := hR4.jset rfl
      have hE5 : EF M (jput M4 (B 22) (some (jlen 22, vp_updL ((rI (rI (rI (rI R 18 (upd (R.2.1 18) j (R.2.1 18 (j + 1)))) 19 (upd ((rI R 18 (upd (R.2.1 18) j (R.2.1 18 (j + 1)))).2.1 19) j ((rI R 18 (upd (R.2.1 18) j (R.2.1 18 (j + 1)))).2.1 19 (j + 1)))) 20 (upd ((rI (rI R 18 (upd (R.2.1 18) j (R.2.1 18 (j + 1)))) 19 (upd ((rI R 18 (upd (R.2.1 18) j (R.2.1 18 (j + 1)))).2.1 19) j ((rI R 18 (upd (R.2.1 18) j (R.2.1 18 (j + 1)))).2.1 19 (j + 1)))).2.1 20) j ((rI (rI R 18 (upd (R.2.1 18) j (R.2.1 18 (j + 1)))) 19 (upd ((rI R 18 (upd (R.2.1 18) j (R.2.1 18 (j + 1)))).2.1 19) j ((rI R 18 (upd (R.2.1 18) j (R.2.1 18 (j + 1)))).2.1 19 (j + 1)))).2.1 20 (j + 1)))) 21 (upd ((rI (rI (rI R 18 (upd (R.2.1 18) j (R.2.1 18 (j + 1)))) 19 (upd ((rI R 18 (upd (R.2.1 18) j (R.2.1 18 (j + 1)))).2.1 19) j ((rI R 18 (upd (R.2.1 18) j (R.2.1 18 (j + 1)))).2.1 19 (j + 1)))) 20 (upd ((rI (rI R 18 (upd (R.2.1 18) j (R.2.1 18 (j + 1)))) 19 (upd ((rI R 18 (upd (R.2.1 18) j (R.2.1 18 (j + 1)))).2.1 19) j ((rI R 18 (upd (R.2.1 18) j (R.2.1 18 (j + 1)))).2.1 19 (j + 1)))).2.1 20) j ((rI (rI R 18 (upd (R.2.1 18) j (R.2.1 18 (j + 1)))) 19 (upd ((rI R 18 (upd (R.2.1 18) j (R.2.1 18 (j + 1)))).2.1 19) j ((rI R 18 (upd (R.2.1 18) j (R.2.1 18 (j + 1)))).2.1 19 (j + 1)))).2.1 20 (j + 1)))).2.1 21) j ((rI (rI (rI R 18 (upd (R.2.1 18) j (R.2.1 18 (j + 1)))) 19 (upd ((rI R 18 (upd (R.2.1 18) j (R.2.1 18 (j + 1)))).2.1 19) j ((rI R 18 (upd (R.2.1 18) j (R.2.1 18 (j + 1)))).2.1 19 (j + 1)))) 20 (upd ((rI (rI R 18 (upd (R.2.1 18) j (R.2.1 18 (j + 1)))) 19 (upd ((rI R 18 (upd (R.2.1 18) j (R.2.1 18 (j + 1)))).2.1 19) j ((rI R 18 (upd (R.2.1 18) j (R.2.1 18 (j + 1)))).2.1 19 (j + 1)))).2.1 20) j ((rI (rI R 18 (upd (R.2.1 18) j (R.2.1 18 (j + 1)))) 19 (upd ((rI R 18 (upd (R.2.1 18) j (R.2.1 18 (j + 1)))).2.1 19) j ((rI R 18 (upd (R.2.1 18) j (R.2.1 18 (j + 1)))).2.1 19 (j + 1)))).2.1 20 (j + 1)))).2.1 21 (j + 1)))).2.2 22) j ((rI (rI (rI (rI R 18 (upd (R.2.1 18) j (R.2.1 18 (j + 1)))) 19 (upd ((rI R 18 (upd (R.2.1 18) j (R.2.1 18 (j + 1)))).2.1 19) j ((rI R 18 (upd (R.2.1 18) j (R.2.1 18 (j + 1)))).2.1 19 (j + 1)))) 20 (upd ((rI (rI R 18 (upd (R.2.1 18) j (R.2.1 18 (j + 1)))) 19 (upd ((rI R 18 (upd (R.2.1 18) j (R.2.1 18 (j + 1)))).2.1 19) j ((rI R 18 (upd (R.2.1 18) j (R.2.1 18 (j + 1)))).2.1 19 (j + 1)))).2.1 20) j ((rI (rI R 18 (upd (R.2.1 18) j (R.2.1 18 (j + 1)))) 19 (upd ((rI R 18 (upd (R.2.1 18) j (R.2.1 18 (j + 1)))).2.1 19) j ((rI R 18 (upd (R.2.1 18) j (R.2.1 18 (j + 1)))).2.1 19 (j + 1)))).2.1 20 (j + 1)))) 21 (upd ((rI (rI (rI R 18 (upd (R.2.1 18) j (R.2.1 18 (j + 1)))) 19 (upd ((rI R 18 (upd (R.2.1 18) j (R.2.1 18 (j + 1)))).2.1 19) j ((rI R 18 (upd (R.2.1 18) j (R.2.1 18 (j + 1)))).2.1 19 (j + 1)))) 20 (upd ((rI (rI R 18 (upd (R.2.1 18) j (R.2.1 18 (j + 1)))) 19 (upd ((rI R 18 (upd (R.2.1 18) j (R.2.1 18 (j + 1)))).2.1 19) j ((rI R 18 (upd (R.2.1 18) j (R.2.1 18 (j + 1)))).2.1 19 (j + 1)))).2.1 20) j ((rI (rI R 18 (upd (R.2.1 18) j (R.2.1 18 (j + 1)))) 19 (upd ((rI R 18 (upd (R.2.1 18) j (R.2.1 18 (j + 1)))).2.1 19) j ((rI R 18 (upd (R.2.1 18) j (R.2.1 18 (j + 1)))).2.1 19 (j + 1)))).2.1 20 (j + 1)))).2.1 21) j ((rI (rI (rI R 18 (upd (R.2.1 18) j (R.2.1 18 (j + 1)))) 19 (upd ((rI R 18 (upd (R.2.1 18) j (R.2.1 18 (j + 1)))).2.1 19) j ((rI R 18 (upd (R.2.1 18) j (R.2.1 18 (j + 1)))).2.1 19 (j + 1)))) 20 (upd ((rI (rI R 18 (upd (R.2.1 18) j (R.2.1 18 (j + 1)))) 19 (upd ((rI R 18 (upd (R.2.1 18) j (R.2.1 18 (j + 1)))).2.1 19) j ((rI R 18 (upd (R.2.1 18) j (R.2.1 18 (j + 1)))).2.1 19 (j + 1)))).2.1 20) j ((rI (rI R 18 (upd (R.2.1 18) j (R.2.1 18 (j + 1)))) 19 (upd ((rI R 18 (upd (R.2.1 18) j (R.2.1 18 (j + 1)))).2.1 19) j ((rI R 18 (upd (R.2.1 18) j (R.2.1 18 (j + 1)))).2.1 19 (j + 1)))).2.1 20 (j + 1)))).2.1 21 (j + 1)))).2.2 22 (j + 1))))) m B := hE4.tr (EF.j rfl)
      generalize jput M4 (B 22) (some (jlen 22, vp_updL ((rI (rI (rI (rI R 18 (upd (R.2.1 18) j (R.2.1 18 (j + 1)))) 19 (upd ((rI R 18 (upd (R.2.1 18) j (R.2.1 18 (j + 1)))).2.1 19) j ((rI R 18 (upd (R.2.1 18) j (R.2.1 18 (j + 1)))).2.1 19 (j + 1)))) 20 (upd ((rI (rI R 18 (upd (R.2.1 18) j (R.2.1 18 (j + 1)))) 19 (upd ((rI R 18 (upd (R.2.1 18) j (R.2.1 18 (j + 1)))).2.1 19) j ((rI R 18 (upd (R.2.1 18) j (R.2.1 18 (j + 1)))).2.1 19 (j + 1)))).2.1 20) j ((rI (rI R 18 (upd (R.2.1 18) j (R.2.1 18 (j + 1)))) 19 (upd ((rI R 18 (upd (R.2.1 18) j (R.2.1 18 (j + 1)))).2.1 19) j ((rI R 18 (upd (R.2.1 18) j (R.2.1 18 (j + 1)))).2.1 19 (j + 1)))).2.1 20 (j + 1)))) 21 (upd ((rI (rI (rI R 18 (upd (R.2.1 18) j (R.2.1 18 (j + 1)))) 19 (upd ((rI R 18 (upd (R.2.1 18) j (R.2.1 18 (j + 1)))).2.1 19) j ((rI R 18 (upd (R.2.1 18) j (R.2.1 18 (j + 1)))).2.1 19 (j + 1)))) 20 (upd ((rI (rI R 18 (upd (R.2.1 18) j (R.2.1 18 (j + 1)))) 19 (upd ((rI R 18 (upd (R.2.1 18) j (R.2.1 18 (j + 1)))).2.1 19) j ((rI R 18 (upd (R.2.1 18) j (R.2.1 18 (j + 1)))).2.1 19 (j + 1)))).2.1 20) j ((rI (rI R 18 (upd (R.2.1 18) j (R.2.1 18 (j + 1)))) 19 (upd ((rI R 18 (upd (R.2.1 18) j (R.2.1 18 (j + 1)))).2.1 19) j ((rI R 18 (upd (R.2.1 18) j (R.2.1 18 (j + 1)))).2.1 19 (j + 1)))).2.1 20 (j + 1)))).2.1 21) j ((rI (rI (rI R 18 (upd (R.2.1 18) j (R.2.1 18 (j + 1)))) 19 (upd ((rI R 18 (upd (R.2.1 18) j (R.2.1 18 (j + 1)))).2.1 19) j ((rI R 18 (upd (R.2.1 18) j (R.2.1 18 (j + 1)))).2.1 19 (j + 1)))) 20 (upd ((rI (rI R 18 (upd (R.2.1 18) j (R.2.1 18 (j + 1)))) 19 (upd ((rI R 18 (upd (R.2.1 18) j (R.2.1 18 (j + 1)))).2.1 19) j ((rI R 18 (upd (R.2.1 18) j (R.2.1 18 (j + 1)))).2.1 19 (j + 1)))).2.1 20) j ((rI (rI R 18 (upd (R.2.1 18) j (R.2.1 18 (j + 1)))) 19 (upd ((rI R 18 (upd (R.2.1 18) j (R.2.1 18 (j + 1)))).2.1 19) j ((rI R 18 (upd (R.2.1 18) j (R.2.1 18 (j + 1)))).2.1 19 (j + 1)))).2.1 20 (j + 1)))).2.1 21 (j + 1)))).2.2 22) j ((rI (rI (rI (rI R 18 (upd (R.2.1 18) j (R.2.1 18 (j + 1)))) 19 (upd ((rI R 18 (upd (R.2.1 18) j (R.2.1 18 (j + 1)))).2.1 19) j ((rI R 18 (upd (R.2.1 18) j (R.2.1 18 (j + 1)))).2.1 19 (j + 1)))) 20 (upd ((rI (rI R 18 (upd (R.2.1 18) j (R.2.1 18 (j + 1)))) 19 (upd ((rI R 18 (upd (R.2.1 18) j (R.2.1 18 (j + 1)))).2.1 19) j ((rI R 18 (upd (R.2.1 18) j (R.2.1 18 (j + 1)))).2.1 19 (j + 1)))).2.1 20) j ((rI (rI R 18 (upd (R.2.1 18) j (R.2.1 18 (j + 1)))) 19 (upd ((rI R 18 (upd (R.2.1 18) j (R.2.1 18 (j + 1)))).2.1 19) j ((rI R 18 (upd (R.2.1 18) j (R.2.1 18 (j + 1)))).2.1 19 (j + 1)))).2.1 20 (j + 1)))) 21 (upd ((rI (rI (rI R 18 (upd (R.2.1 18) j (R.2.1 18 (j + 1)))) 19 (upd ((rI R 18 (upd (R.2.1 18) j (R.2.1 18 (j + 1)))).2.1 19) j ((rI R 18 (upd (R.2.1 18) j (R.2.1 18 (j + 1)))).2.1 19 (j + 1)))) 20 (upd ((rI (rI R 18 (upd (R.2.1 18) j (R.2.1 18 (j + 1)))) 19 (upd ((rI R 18 (upd (R.2.1 18) j (R.2.1 18 (j + 1)))).2.1 19) j ((rI R 18 (upd (R.2.1 18) j (R.2.1 18 (j + 1)))).2.1 19 (j + 1)))).2.1 20) j ((rI (rI R 18 (upd (R.2.1 18) j (R.2.1 18 (j + 1)))) 19 (upd ((rI R 18 (upd (R.2.1 18) j (R.2.1 18 (j + 1)))).2.1 19) j ((rI R 18 (upd (R.2.1 18) j (R.2.1 18 (j + 1)))).2.1 19 (j + 1)))).2.1 20 (j + 1)))).2.1 21) j ((rI (rI (rI R 18 (upd (R.2.1 18) j (R.2.1 18 (j + 1)))) 19 (upd ((rI R 18 (upd (R.2.1 18) j (R.2.1 18 (j + 1)))).2.1 19) j ((rI R 18 (upd (R.2.1 18) j (R.2.1 18 (j + 1)))).2.1 19 (j + 1)))) 20 (upd ((rI (rI R 18 (upd (R.2.1 18) j (R.2.1 18 (j + 1)))) 19 (upd ((rI R 18 (upd (R.2.1 18) j (R.2.1 18 (j + 1)))).2.1 19) j ((rI R 18 (upd (R.2.1 18) j (R.2.1 18 (j + 1)))).2.1 19 (j + 1)))).2.1 20) j ((rI (rI R 18 (upd (R.2.1 18) j (R.2.1 18 (j + 1)))) 19 (upd ((rI R 18 (upd (R.2.1 18) j (R.2.1 18 (j + 1)))).2.1 19) j ((rI R 18 (upd (R.2.1 18) j (R.2.1 18 (j + 1)))).2.1 19 (j + 1)))).2.1 20 (j + 1)))).2.1 21 (j + 1)))).2.2 22 (j + 1)))) = M5 at hR5 hE5 ⊢
      refine xw_iinc (v := (nI j) + 1) (L2 := [(6, .int ((nI j) + 1)), (5, .int (nI k)), (4, .int (nI p)), (3, .int (nI (prt o))), (0, .ref m), (1, .int (nI i)), (2, .int (nI c))]) dX10_gather_222 rfl rfl (by decide) rfl ?_
      refine xw_goto (tgt := 133) dX10_gather_225 (by decide) ?_
      rw [nI_1]
      have hfin : RW M5 m B (rT ρs k (j + 1)) := by
        have e := rT_s ρs R hkj hRe
        simp only [rS_1, rS_2, rS_3, rI_1, rI_2, rI_3, rJ_1, rJ_2, rJ_3] at hR5
        simp at hR5
        rw [← e]
        exact hR5
      exact ih (j + 1) M5 (by omega) (by omega) hfin hE5
  have m3 : ∀ p, 3 * nI len + nI p = nI (3 * len + p) := fun p => by rw [show (3 : Int32) = nI 3 from by decide +kernel, pk_mul, nI_add]
  have loop2 : full T i c (prt o) → ∀ (q p : Nat) (M' : hx_S) (ρ' : hr_S), p + q = prt o → RW M' m B ρ' → EF M M' m B → HT ρ' (Tq T i c p) → AG [17, 18, 19, 20, 21, 22, 23, 24, 25, 26, 27] ρ ρ' → ρ'.1 23 = nI len → (∀ x, x ≠ len → ρ'.2.1 24 x = ρ.2.1 24 x ∧ ρ'.2.1 25 x = ρ.2.1 25 x) → (ρ'.2.1 24 len = nI i ∧ ρ'.2.1 25 len = nI c) → (∀ x, x < 3 * len → ρ'.2.1 26 x = ρ.2.1 26 x ∧ ρ'.2.2 27 x = ρ.2.2 27 x) → (∀ p' v, p' < p → ((i, c, p'), v) ∈ T → ρ'.2.1 26 (3 * len + p') = v.1 ∧ ρ'.2.2 27 (3 * len + p') = v.2) → XW G 1 24 mX10_gather [.ref m, .int (nI i), .int (nI c)] M P M' 61 [(4, .int (nI p)), (3, .int (nI (prt o))), (0, .ref m), (1, .int (nI i)), (2, .int (nI c))] [] := by
    intro hfull q
    induction q with
    | zero =>
      intro p M' ρ' hpq hR' hE' hT' hA' h23 hx hxl h26 hval
      obtain rfl : p = prt o := by omega
      refine xw_iload dX10_gather_61 rfl ?_
      refine xw_iload_n dX10_gather_63 rfl rfl ?_
      refine xw_icmp_ge (tgt := 234) dX10_gather_64 (by decide) (fun _ => ?_) (fun zz => absurd (nI_le (Nat.le_refl _) (by omega)) zz)
      refine xw_aload_n dX10_gather_234 rfl rfl ?_
      refine xw_dup dX10_gather_235 rfl ?_
      refine xw_get (ci := 11) (k := 23) (v := .int (ρ'.1 23)) dX10_gather_236 hR'.1 rfl inX10 (by decide) tw_814 (Or.inl rfl) rfl ?_
      refine xw_iconst (v := 1) dX10_gather_239 (by decide) ?_
      refine xw_iadd dX10_gather_240 ?_
      rw [h23, nI_1]
      refine xw_put (ci := 11) (k := 23) tyX10 dX10_gather_241 hR'.1 rfl inX10 tyX10_ok nmX10 (by decide) tw_814 (Or.inl rfl) rfl rfl rfl rfl (Nat.le_of_ble_eq_true rfl) ?_
      dsimp only [flM, List.set]
      have hR1 : RW (oput M' 11 m (some [.int (ρ'.1 0), .int (ρ'.1 1), .ref (B 2), .ref (B 3), .ref (B 4), .ref (B 5), .ref (B 6), .ref (B 7), .int (ρ'.1 8), .int (ρ'.1 9), .ref (B 10), .ref (B 11), .ref (B 12), .int (ρ'.1 13), .ref (B 14), .ref (B 15), .ref (B 16), .int (ρ'.1 17), .ref (B 18), .ref (B 19), .ref (B 20), .ref (B 21), .ref (B 22), .int ((nI (len + 1))), .ref (B 24), .ref (B 25), .ref (B 26), .ref (B 27), .int (ρ'.1 28), .ref (B 29), .ref (B 30), .ref (B 31), .int (ρ'.1 32), .ref (B 33), .ref (B 34), .ref (B 35), .int (ρ'.1 36), .int (ρ'.1 37), .int (ρ'.1 38), .ref (B 39), .ref (B 40)])) m B (rS ρ' 23 (nI (len + 1))) := hR'.sset (k := 23) (v := (nI (len + 1)))
      have hE1 : EF M (oput M' 11 m (some [.int (ρ'.1 0), .int (ρ'.1 1), .ref (B 2), .ref (B 3), .ref (B 4), .ref (B 5), .ref (B 6), .ref (B 7), .int (ρ'.1 8), .int (ρ'.1 9), .ref (B 10), .ref (B 11), .ref (B 12), .int (ρ'.1 13), .ref (B 14), .ref (B 15), .ref (B 16), .int (ρ'.1 17), .ref (B 18), .ref (B 19), .ref (B 20), .ref (B 21), .ref (B 22), .int ((nI (len + 1))), .ref (B 24), .ref (B 25), .ref (B 26), .ref (B 27), .int (ρ'.1 28), .ref (B 29), .ref (B 30), .ref (B 31), .int (ρ'.1 32), .ref (B 33), .ref (B 34), .ref (B 35), .int (ρ'.1 36), .int (ρ'.1 37), .int (ρ'.1 38), .ref (B 39), .ref (B 40)])) m B := hE'.tr EF.o
      generalize oput M' 11 m (some [.int (ρ'.1 0), .int (ρ'.1 1), .ref (B 2), .ref (B 3), .ref (B 4), .ref (B 5), .ref (B 6), .ref (B 7), .int (ρ'.1 8), .int (ρ'.1 9), .ref (B 10), .ref (B 11), .ref (B 12), .int (ρ'.1 13), .ref (B 14), .ref (B 15), .ref (B 16), .int (ρ'.1 17), .ref (B 18), .ref (B 19), .ref (B 20), .ref (B 21), .ref (B 22), .int ((nI (len + 1))), .ref (B 24), .ref (B 25), .ref (B 26), .ref (B 27), .int (ρ'.1 28), .ref (B 29), .ref (B 30), .ref (B 31), .int (ρ'.1 32), .ref (B 33), .ref (B 34), .ref (B 35), .int (ρ'.1 36), .int (ρ'.1 37), .int (ρ'.1 38), .ref (B 39), .ref (B 40)]) = M1 at hR1 hE1 ⊢
      have hA1 := hA'.s (k := 23) (v := (nI (len + 1))) (by decide)
      rw [hP]
      exact xw_vret rfl dX10_gather_244 ⟨rfl, Or.inr ⟨hfull, rS ρ' 23 (nI (len + 1)), hR1, hE1, hT'.ag ((AG.rf [23] ρ').s (by decide)) (by decide), hA1, rfl, hx, hxl, h26, hval⟩⟩
    | succ q ih =>
      intro p M' ρ' hpq hR' hE' hT' hA' h23 hx hxl h26 hval
      obtain ⟨v, hv⟩ := hfull p (by omega)
      have hvq : ((i, c, p), v) ∈ Tq T i c p := List.mem_filter.mpr ⟨hv, by simp⟩
      have hTB := Tq_B (i := i) (c := c) (q := p) hB
      refine xw_iload dX10_gather_61 rfl ?_
      refine xw_iload_n dX10_gather_63 rfl rfl ?_
      refine xw_icmp_ge (tgt := 234) dX10_gather_64 (by decide) (fun zz => absurd zz (nI_ge (show p < prt o by omega) (by omega))) (fun _ => ?_)
      refine xw_aload_n dX10_gather_67 rfl rfl ?_
      refine xw_iload_n dX10_gather_68 rfl rfl ?_
      refine xw_iload dX10_gather_69 rfl ?_
      refine xw_iload_n dX10_gather_71 rfl rfl ?_
      refine xw_pc (pc2 := 72) rfl ?_
      refine xw_callV (q2 := mX10_waits) (n2 := 3) (ci := 11) (Bs := [.int (nI i), .int (nI p), .int (nI c)]) (rest := []) (ct_mwaits hR' hT' hTB hi (show p < 3 by omega) hc) dX10_gather_72 rfl (o_at hR'.1) rfl rfl tw_947 tw_949 tw_21 tw_47 tw_950 (by decide +kernel) rfl (Nat.le_of_ble_eq_true rfl) (Nat.le_of_ble_eq_true rfl) (Nat.le_of_ble_eq_true rfl) (fun rr M1 hr hle1 => ?_)
      obtain ⟨hM1, hq⟩ := hr
      obtain rfl := hM1.symm
      rcases hq with ⟨-, hno⟩ | ⟨k, w, rfl, hk⟩
      · exact absurd rfl (hno _ hvq)
      · obtain rfl : w = v := key_inj (nd_filter _ hnd) (List.mem_of_getElem? hk) hvq
        have hkl := (List.getElem?_eq_some_iff.mp hk).1
        have hl301 := hTB.1
        obtain ⟨L, hL⟩ : ∃ L, L + 1 = (Tq T i c p).length := ⟨(Tq T i c p).length - 1, by omega⟩
        have hink : vp_in (nI k) 302 := vp_in_nI (by omega) (by decide)
        have hk31 : k < 2 ^ 31 := by omega
        have hin26 : vp_in (nI (3 * len + p)) 906 := vp_in_nI (by omega) (by decide)
        have hb26 : 3 * len + p < 2 ^ 31 := by omega
        obtain ⟨t1, t2, t3, t4, t5⟩ := hT'.2 k _ hk
        have h3 : 3 * ρ'.1 23 + nI p = nI (3 * len + p) := by rw [h23]; exact m3 p
        refine xw_istore (L2 := [(5, .int (nI k)), (4, .int (nI p)), (3, .int (nI (prt o))), (0, .ref m), (1, .int (nI i)), (2, .int (nI c))]) dX10_gather_75 (by decide) rfl ?_
        refine xw_aload_n dX10_gather_77 rfl rfl ?_
        refine xw_get (ci := 11) (k := 26) (v := .ref (B 26)) dX10_gather_78 hR'.1 rfl inX10 (by decide) tw_817 (Or.inl rfl) rfl ?_
        refine xw_iconst (v := 3) dX10_gather_81 (by decide) ?_
        refine xw_aload_n dX10_gather_82 rfl rfl ?_
        refine xw_get (ci := 11) (k := 23) (v := .int (ρ'.1 23)) dX10_gather_83 hR'.1 rfl inX10 (by decide) tw_814 (Or.inl rfl) rfl ?_
        refine xw_imul dX10_gather_86 ?_
        refine xw_iload dX10_gather_87 rfl ?_
        refine xw_iadd dX10_gather_89 ?_
        refine xw_aload_n dX10_gather_90 rfl rfl ?_
        refine xw_get (ci := 11) (k := 21) (v := .ref (B 21)) dX10_gather_91 hR'.1 rfl inX10 (by decide) tw_812 (Or.inl rfl) rfl ?_
        refine xw_iload dX10_gather_94 rfl ?_
        rw [h3]
        refine xw_iald dX10_gather_96 (hR'.2.1 21 rfl) hink ?_
        rw [nI_clamp hk31]
        rw [t4]
        refine xw_iast dX10_gather_97 (hR'.2.1 26 rfl) hin26 ?_
        rw [nI_clamp hb26]
        have hR1 : RW (iput M' (B 26) (some (ilen 26, upd (ρ'.2.1 26) (3 * len + p) w.1))) m B (rI ρ' 26 (upd (ρ'.2.1 26) (3 * len + p) w.1)) := hR'.iset rfl
        have hE1 : EF M (iput M' (B 26) (some (ilen 26, upd (ρ'.2.1 26) (3 * len + p) w.1))) m B := hE'.tr (EF.i rfl)
        generalize iput M' (B 26) (some (ilen 26, upd (ρ'.2.1 26) (3 * len + p) w.1)) = M1 at hR1 hE1 ⊢
        have hA1 := hA'.i (k := 26) (f := (upd (ρ'.2.1 26) (3 * len + p) w.1)) (by decide)
        refine xw_aload_n dX10_gather_98 rfl rfl ?_
        refine xw_get (ci := 11) (k := 27) (v := .ref (B 27)) dX10_gather_99 hR1.1 rfl inX10 (by decide) tw_818 (Or.inl rfl) rfl ?_
        refine xw_iconst (v := 3) dX10_gather_102 (by decide) ?_
        refine xw_aload_n dX10_gather_103 rfl rfl ?_
        refine xw_get (ci := 11) (k := 23) (v := .int ((rI ρ' 26 (upd (ρ'.2.1 26) (3 * len + p) w.1)).1 23)) dX10_gather_104 hR1.1 rfl inX10 (by decide) tw_814 (Or.inl rfl) rfl ?_
        refine xw_imul dX10_gather_107 ?_
        refine xw_iload dX10_gather_108 rfl ?_
        refine xw_iadd dX10_gather_110 ?_
        refine xw_aload_n dX10_gather_111 rfl rfl ?_
        refine xw_get (ci := 11) (k := 22) (v := .ref (B 22)) dX10_gather_112 hR1.1 rfl inX10 (by decide) tw_813 (Or.inl rfl) rfl ?_
        refine xw_iload dX10_gather_115 rfl ?_
        refine xw_pc (pc2 := 117) rfl ?_
        rw [show 3 * (rI ρ' 26 (upd (ρ'.2.1 26) (3 * len + p) w.1)).1 23 + nI p = nI (3 * len + p) from h3]
        refine xw_lald dX10_gather_117 (hR1.2.2.1 22 rfl) hink ?_
        rw [nI_clamp hk31]
        rw [show (rI ρ' 26 (upd (ρ'.2.1 26) (3 * len + p) w.1)).2.2 22 k = w.2 from t5]
        refine xw_last dX10_gather_118 (hR1.2.2.1 27 rfl) hin26 ?_
        rw [nI_clamp hb26]
        have hR2 : RW (jput M1 (B 27) (some (jlen 27, vp_updL ((rI ρ' 26 (upd (ρ'.2.1 26) (3 * len + p) w.1)).2.2 27) (3 * len + p) w.2))) m B (rJ (rI ρ' 26 (upd (ρ'.2.1 26) (3 * len + p) w.1)) 27 (vp_updL ((rI ρ' 26 (upd (ρ'.2.1 26) (3 * len + p) w.1)).2.2 27) (3 * len + p) w.2)) := hR1.jset rfl
        have hE2 : EF M (jput M1 (B 27) (some (jlen 27, vp_updL ((rI ρ' 26 (upd (ρ'.2.1 26) (3 * len + p) w.1)).2.2 27) (3 * len + p) w.2))) m B := hE1.tr (EF.j rfl)
        generalize jput M1 (B 27) (some (jlen 27, vp_updL ((rI ρ' 26 (upd (ρ'.2.1 26) (3 * len + p) w.1)).2.2 27) (3 * len + p) w.2)) = M2 at hR2 hE2 ⊢
        have hA2 := hA1.j (k := 27) (f := (vp_updL ((rI ρ' 26 (upd (ρ'.2.1 26) (3 * len + p) w.1)).2.2 27) (3 * len + p) w.2)) (by decide)
        refine xw_aload_n dX10_gather_119 rfl rfl ?_
        refine xw_dup dX10_gather_120 rfl ?_
        refine xw_get (ci := 11) (k := 17) (v := .int ((rJ (rI ρ' 26 (upd (ρ'.2.1 26) (3 * len + p) w.1)) 27 (vp_updL ((rI ρ' 26 (upd (ρ'.2.1 26) (3 * len + p) w.1)).2.2 27) (3 * len + p) w.2)).1 17)) dX10_gather_121 hR2.1 rfl inX10 (by decide) tw_808 (Or.inl rfl) rfl ?_
        refine xw_iconst (v := 1) dX10_gather_124 (by decide) ?_
        refine xw_isub dX10_gather_125 ?_
        have h17 : ρ'.1 17 = nI (L + 1) := by rw [hT'.1, hL]
        rw [show (rJ (rI ρ' 26 (upd (ρ'.2.1 26) (3 * len + p) w.1)) 27 (vp_updL ((rI ρ' 26 (upd (ρ'.2.1 26) (3 * len + p) w.1)).2.2 27) (3 * len + p) w.2)).1 17 = nI (L + 1) from h17, nI_pred]
        refine xw_put (ci := 11) (k := 17) tyX10 dX10_gather_126 hR2.1 rfl inX10 tyX10_ok nmX10 (by decide) tw_808 (Or.inl rfl) rfl rfl rfl rfl (Nat.le_of_ble_eq_true rfl) ?_
        dsimp only [flM, List.set]
        have hR3 : RW (oput M2 11 m (some [.int ((rJ (rI ρ' 26 (upd (ρ'.2.1 26) (3 * len + p) w.1)) 27 (vp_updL ((rI ρ' 26 (upd (ρ'.2.1 26) (3 * len + p) w.1)).2.2 27) (3 * len + p) w.2)).1 0), .int ((rJ (rI ρ' 26 (upd (ρ'.2.1 26) (3 * len + p) w.1)) 27 (vp_updL ((rI ρ' 26 (upd (ρ'.2.1 26) (3 * len + p) w.1)).2.2 27) (3 * len + p) w.2)).1 1), .ref (B 2), .ref (B 3), .ref (B 4), .ref (B 5), .ref (B 6), .ref (B 7), .int ((rJ (rI ρ' 26 (upd (ρ'.2.1 26) (3 * len + p) w.1)) 27 (vp_updL ((rI ρ' 26 (upd (ρ'.2.1 26) (3 * len + p) w.1)).2.2 27) (3 * len + p) w.2)).1 8), .int ((rJ (rI ρ' 26 (upd (ρ'.2.1 26) (3 * len + p) w.1)) 27 (vp_updL ((rI ρ' 26 (upd (ρ'.2.1 26) (3 * len + p) w.1)).2.2 27) (3 * len + p) w.2)).1 9), .ref (B 10), .ref (B 11), .ref (B 12), .int ((rJ (rI ρ' 26 (upd (ρ'.2.1 26) (3 * len + p) w.1)) 27 (vp_updL ((rI ρ' 26 (upd (ρ'.2.1 26) (3 * len + p) w.1)).2.2 27) (3 * len + p) w.2)).1 13), .ref (B 14), .ref (B 15), .ref (B 16), .int ((nI L)), .ref (B 18), .ref (B 19), .ref (B 20), .ref (B 21), .ref (B 22), .int ((rJ (rI ρ' 26 (upd (ρ'.2.1 26) (3 * len + p) w.1)) 27 (vp_updL ((rI ρ' 26 (upd (ρ'.2.1 26) (3 * len + p) w.1)).2.2 27) (3 * len + p) w.2)).1 23), .ref (B 24), .ref (B 25), .ref (B 26), .ref (B 27), .int ((rJ (rI ρ' 26 (upd (ρ'.2.1 26) (3 * len + p) w.1)) 27 (vp_updL ((rI ρ' 26 (upd (ρ'.2.1 26) (3 * len + p) w.1)).2.2 27) (3 * len + p) w.2)).1 28), .ref (B 29), .ref (B 30), .ref (B 31), .int ((rJ (rI ρ' 26 (upd (ρ'.2.1 26) (3 * len + p) w.1)) 27 (vp_updL ((rI ρ' 26 (upd (ρ'.2.1 26) (3 * len + p) w.1)).2.2 27) (3 * len + p) w.2)).1 32), .ref (B 33), .ref (B 34), .ref (B 35), .int ((rJ (rI ρ' 26 (upd (ρ'.2.1 26) (3 * len + p) w.1)) 27 (vp_updL ((rI ρ' 26 (upd (ρ'.2.1 26) (3 * len + p) w.1)).2.2 27) (3 * len + p) w.2)).1 36), .int ((rJ (rI ρ' 26 (upd (ρ'.2.1 26) (3 * len + p) w.1)) 27 (vp_updL ((rI ρ' 26 (upd (ρ'.2.1 26) (3 * len + p) w.1)).2.2 27) (3 * len + p) w.2)).1 37), .int ((rJ (rI ρ' 26 (upd (ρ'.2.1 26) (3 * len + p) w.1)) 27 (vp_updL ((rI ρ' 26 (upd (ρ'.2.1 26) (3 * len + p) w.1)).2.2 27) (3 * len + p) w.2)).1 38), .ref (B 39), .ref (B 40)])) m B (rS (rJ (rI ρ' 26 (upd (ρ'.2.1 26) (3 * len + p) w.1)) 27 (vp_updL ((rI ρ' 26 (upd (ρ'.2.1 26) (3 * len + p) w.1)).2.2 27) (3 * len + p) w.2)) 17 (nI L)) := hR2.sset (k := 17) (v := (nI L))
        have hE3 : EF M (oput M2 11 m (some [.int ((rJ (rI ρ' 26 (upd (ρ'.2.1 26) (3 * len + p) w.1)) 27 (vp_updL ((rI ρ' 26 (upd (ρ'.2.1 26) (3 * len + p) w.1)).2.2 27) (3 * len + p) w.2)).1 0), .int ((rJ (rI ρ' 26 (upd (ρ'.2.1 26) (3 * len + p) w.1)) 27 (vp_updL ((rI ρ' 26 (upd (ρ'.2.1 26) (3 * len + p) w.1)).2.2 27) (3 * len + p) w.2)).1 1), .ref (B 2), .ref (B 3), .ref (B 4), .ref (B 5), .ref (B 6), .ref (B 7), .int ((rJ (rI ρ' 26 (upd (ρ'.2.1 26) (3 * len + p) w.1)) 27 (vp_updL ((rI ρ' 26 (upd (ρ'.2.1 26) (3 * len + p) w.1)).2.2 27) (3 * len + p) w.2)).1 8), .int ((rJ (rI ρ' 26 (upd (ρ'.2.1 26) (3 * len + p) w.1)) 27 (vp_updL ((rI ρ' 26 (upd (ρ'.2.1 26) (3 * len + p) w.1)).2.2 27) (3 * len + p) w.2)).1 9), .ref (B 10), .ref (B 11), .ref (B 12), .int ((rJ (rI ρ' 26 (upd (ρ'.2.1 26) (3 * len + p) w.1)) 27 (vp_updL ((rI ρ' 26 (upd (ρ'.2.1 26) (3 * len + p) w.1)).2.2 27) (3 * len + p) w.2)).1 13), .ref (B 14), .ref (B 15), .ref (B 16), .int ((nI L)), .ref (B 18), .ref (B 19), .ref (B 20), .ref (B 21), .ref (B 22), .int ((rJ (rI ρ' 26 (upd (ρ'.2.1 26) (3 * len + p) w.1)) 27 (vp_updL ((rI ρ' 26 (upd (ρ'.2.1 26) (3 * len + p) w.1)).2.2 27) (3 * len + p) w.2)).1 23), .ref (B 24), .ref (B 25), .ref (B 26), .ref (B 27), .int ((rJ (rI ρ' 26 (upd (ρ'.2.1 26) (3 * len + p) w.1)) 27 (vp_updL ((rI ρ' 26 (upd (ρ'.2.1 26) (3 * len + p) w.1)).2.2 27) (3 * len + p) w.2)).1 28), .ref (B 29), .ref (B 30), .ref (B 31), .int ((rJ (rI ρ' 26 (upd (ρ'.2.1 26) (3 * len + p) w.1)) 27 (vp_updL ((rI ρ' 26 (upd (ρ'.2.1 26) (3 * len + p) w.1)).2.2 27) (3 * len + p) w.2)).1 32), .ref (B 33), .ref (B 34), .ref (B 35), .int ((rJ (rI ρ' 26 (upd (ρ'.2.1 26) (3 * len + p) w.1)) 27 (vp_updL ((rI ρ' 26 (upd (ρ'.2.1 26) (3 * len + p) w.1)).2.2 27) (3 * len + p) w.2)).1 36), .int ((rJ (rI ρ' 26 (upd (ρ'.2.1 26) (3 * len + p) w.1)) 27 (vp_updL ((rI ρ' 26 (upd (ρ'.2.1 26) (3 * len + p) w.1)).2.2 27) (3 * len + p) w.2)).1 37), .int ((rJ (rI ρ' 26 (upd (ρ'.2.1 26) (3 * len + p) w.1)) 27 (vp_updL ((rI ρ' 26 (upd (ρ'.2.1 26) (3 * len + p) w.1)).2.2 27) (3 * len + p) w.2)).1 38), .ref (B 39), .ref (B 40)])) m B := hE2.tr EF.o
        generalize oput M2 11 m (some [.int ((rJ (rI ρ' 26 (upd (ρ'.2.1 26) (3 * len + p) w.1)) 27 (vp_updL ((rI ρ' 26 (upd (ρ'.2.1 26) (3 * len + p) w.1)).2.2 27) (3 * len + p) w.2)).1 0), .int ((rJ (rI ρ' 26 (upd (ρ'.2.1 26) (3 * len + p) w.1)) 27 (vp_updL ((rI ρ' 26 (upd (ρ'.2.1 26) (3 * len + p) w.1)).2.2 27) (3 * len + p) w.2)).1 1), .ref (B 2), .ref (B 3), .ref (B 4), .ref (B 5), .ref (B 6), .ref (B 7), .int ((rJ (rI ρ' 26 (upd (ρ'.2.1 26) (3 * len + p) w.1)) 27 (vp_updL ((rI ρ' 26 (upd (ρ'.2.1 26) (3 * len + p) w.1)).2.2 27) (3 * len + p) w.2)).1 8), .int ((rJ (rI ρ' 26 (upd (ρ'.2.1 26) (3 * len + p) w.1)) 27 (vp_updL ((rI ρ' 26 (upd (ρ'.2.1 26) (3 * len + p) w.1)).2.2 27) (3 * len + p) w.2)).1 9), .ref (B 10), .ref (B 11), .ref (B 12), .int ((rJ (rI ρ' 26 (upd (ρ'.2.1 26) (3 * len + p) w.1)) 27 (vp_updL ((rI ρ' 26 (upd (ρ'.2.1 26) (3 * len + p) w.1)).2.2 27) (3 * len + p) w.2)).1 13), .ref (B 14), .ref (B 15), .ref (B 16), .int ((nI L)), .ref (B 18), .ref (B 19), .ref (B 20), .ref (B 21), .ref (B 22), .int ((rJ (rI ρ' 26 (upd (ρ'.2.1 26) (3 * len + p) w.1)) 27 (vp_updL ((rI ρ' 26 (upd (ρ'.2.1 26) (3 * len + p) w.1)).2.2 27) (3 * len + p) w.2)).1 23), .ref (B 24), .ref (B 25), .ref (B 26), .ref (B 27), .int ((rJ (rI ρ' 26 (upd (ρ'.2.1 26) (3 * len + p) w.1)) 27 (vp_updL ((rI ρ' 26 (upd (ρ'.2.1 26) (3 * len + p) w.1)).2.2 27) (3 * len + p) w.2)).1 28), .ref (B 29), .ref (B 30), .ref (B 31), .int ((rJ (rI ρ' 26 (upd (ρ'.2.1 26) (3 * len + p) w.1)) 27 (vp_updL ((rI ρ' 26 (upd (ρ'.2.1 26) (3 * len + p) w.1)).2.2 27) (3 * len + p) w.2)).1 32), .ref (B 33), .ref (B 34), .ref (B 35), .int ((rJ (rI ρ' 26 (upd (ρ'.2.1 26) (3 * len + p) w.1)) 27 (vp_updL ((rI ρ' 26 (upd (ρ'.2.1 26) (3 * len + p) w.1)).2.2 27) (3 * len + p) w.2)).1 36), .int ((rJ (rI ρ' 26 (upd (ρ'.2.1 26) (3 * len + p) w.1)) 27 (vp_updL ((rI ρ' 26 (upd (ρ'.2.1 26) (3 * len + p) w.1)).2.2 27) (3 * len + p) w.2)).1 37), .int ((rJ (rI ρ' 26 (upd (ρ'.2.1 26) (3 * len + p) w.1)) 27 (vp_updL ((rI ρ' 26 (upd (ρ'.2.1 26) (3 * len + p) w.1)).2.2 27) (3 * len + p) w.2)).1 38), .ref (B 39), .ref (B 40)]) = M3 at hR3 hE3 ⊢
        have hA3 := hA2.s (k := 17) (v := (nI L)) (by decide)
        refine xw_iload dX10_gather_129 rfl ?_
        refine xw_istore (L2 := [(6, .int (nI k)), (5, .int (nI k)), (4, .int (nI p)), (3, .int (nI (prt o))), (0, .ref m), (1, .int (nI i)), (2, .int (nI c))]) dX10_gather_131 (by decide) rfl ?_
        obtain ⟨ρs, hρs⟩ : ∃ ρs, ρs = rS (rJ (rI ρ' 26 (upd (ρ'.2.1 26) (3 * len + p) w.1)) 27 (vp_updL ((rI ρ' 26 (upd (ρ'.2.1 26) (3 * len + p) w.1)).2.2 27) (3 * len + p) w.2)) 17 (nI L) := ⟨_, rfl⟩
        rw [← hρs] at hR3 hA3
        have g17 : ρs.1 17 = nI L := by rw [hρs, rS_1, if_pos rfl]
        have gT : ρs.2.1 18 = ρ'.2.1 18 ∧ ρs.2.1 19 = ρ'.2.1 19 ∧ ρs.2.1 20 = ρ'.2.1 20 ∧ ρs.2.1 21 = ρ'.2.1 21 ∧ ρs.2.2 22 = ρ'.2.2 22 := by rw [hρs]; simp [rS_1, rS_2, rS_3, rI_1, rI_2, rI_3, rJ_1, rJ_2, rJ_3]
        have gX : ρs.1 23 = ρ'.1 23 ∧ ρs.2.1 24 = ρ'.2.1 24 ∧ ρs.2.1 25 = ρ'.2.1 25 ∧ ρs.2.1 26 = upd (ρ'.2.1 26) (3 * len + p) w.1 ∧ ρs.2.2 27 = vp_updL (ρ'.2.2 27) (3 * len + p) w.2 := by rw [hρs]; simp [rS_1, rS_2, rS_3, rI_1, rI_2, rI_3, rJ_1, rJ_2, rJ_3]
        clear hρs hR1 hR2 hE1 hE2 hA1 hA2
        refine xw_pc rfl (shift ρs k L p (by omega) g17 (fun M4 hR4 hE4 => ?_) (L - k) k M3 (Nat.le_refl k) (by omega) (by rw [rT_0]; exact hR3) hE3)
        refine xw_iinc (v := (nI p) + 1) (L2 := [(4, .int ((nI p) + 1)), (6, .int (nI L)), (5, .int (nI k)), (3, .int (nI (prt o))), (0, .ref m), (1, .int (nI i)), (2, .int (nI c))]) dX10_gather_228 rfl rfl (by decide) rfl ?_
        refine xw_goto (tgt := 61) dX10_gather_231 (by decide) ?_
        rw [nI_1]
        refine xw_sub (L2 := [(4, .int (nI (p + 1))), (3, .int (nI (prt o))), (0, .ref m), (1, .int (nI i)), (2, .int (nI c))]) (.cons_cons _ (.cons _ (.cons _ (.cons_cons _ (.cons_cons _ (.cons_cons _ (.cons_cons _ .slnil))))))) ?_
        have ag4 := rT_ag ρs k L
        have a24 := (ag4 24 (by decide)).2.1
        have a25 := (ag4 25 (by decide)).2.1
        have a26 := (ag4 26 (by decide)).2.1
        have a27 := (ag4 27 (by decide)).2.2
        refine ih (p + 1) M4 (rT ρs k L) (by omega) hR4 hE4 ?_ (hA3.tr (ag4.mono (by decide))) ((ag4 23 (by decide)).1.trans (gX.1.trans h23)) (fun x hxx => ?_) ?_ (fun x hxx => ?_) (fun p' v' hp' hv' => ?_)
        · rw [← Tq_s hnd hk]
          refine HT.erase (fun j x hj => ?_) hL g17 hkl
          rw [gT.1, gT.2.1, gT.2.2.1, gT.2.2.2.1, gT.2.2.2.2]
          exact hT'.2 j x hj
        · rw [a24, a25, gX.2.1, gX.2.2.1]; exact hx x hxx
        · rw [a24, a25, gX.2.1, gX.2.2.1]; exact hxl
        · rw [a26, a27, gX.2.2.2.1, gX.2.2.2.2]
          unfold upd vp_updL
          rw [if_neg (by omega), if_neg (by omega)]
          exact h26 x hxx
        · rw [a26, a27, gX.2.2.2.1, gX.2.2.2.2]
          unfold upd vp_updL
          by_cases e : p' = p
          · rw [if_pos (by rw [e]), if_pos (by rw [e])]
            rw [e] at hv'
            rw [key_inj hnd hv' hv]
            exact ⟨rfl, rfl⟩
          · rw [if_neg (by omega), if_neg (by omega)]
            exact hval p' v' (by omega) hv'
  have loop1 : ∀ (q p : Nat), p + q = prt o → (∀ p', p' < p → ∃ v, ((i, c, p'), v) ∈ T) → XW G 1 24 mX10_gather [.ref m, .int (nI i), .int (nI c)] M P M 13 [(4, .int (nI p)), (3, .int (nI (prt o))), (0, .ref m), (1, .int (nI i)), (2, .int (nI c))] [] := by
    intro q
    induction q with
    | zero =>
      intro p hpq hall
      have hfull : full T i c (prt o) := fun p' hp' => hall p' (by omega)
      have hinl : vp_in (nI len) 302 := vp_in_nI (by omega) (by decide)
      have hl31 : len < 2 ^ 31 := by omega
      refine xw_iload dX10_gather_13 rfl ?_
      refine xw_iload_n dX10_gather_15 rfl rfl ?_
      refine xw_icmp_ge (tgt := 38) dX10_gather_16 (by decide) (fun _ => ?_) (fun zz => absurd (nI_le (show prt o ≤ p by omega) (by omega)) zz)
      refine xw_aload_n dX10_gather_38 rfl rfl ?_
      refine xw_get (ci := 11) (k := 24) (v := .ref (B 24)) dX10_gather_39 hR.1 rfl inX10 (by decide) tw_815 (Or.inl rfl) rfl ?_
      refine xw_aload_n dX10_gather_42 rfl rfl ?_
      refine xw_get (ci := 11) (k := 23) (v := .int (ρ.1 23)) dX10_gather_43 hR.1 rfl inX10 (by decide) tw_814 (Or.inl rfl) rfl ?_
      refine xw_iload_n dX10_gather_46 rfl rfl ?_
      refine xw_pc (pc2 := 47) rfl ?_
      rw [hrd]
      refine xw_iast dX10_gather_47 (hR.2.1 24 rfl) hinl ?_
      rw [nI_clamp hl31]
      have hR1 : RW (iput M (B 24) (some (ilen 24, upd (ρ.2.1 24) len (nI i)))) m B (rI ρ 24 (upd (ρ.2.1 24) len (nI i))) := hR.iset rfl
      have hE1 : EF M (iput M (B 24) (some (ilen 24, upd (ρ.2.1 24) len (nI i)))) m B := (EF.rf M m B).tr (EF.i rfl)
      generalize iput M (B 24) (some (ilen 24, upd (ρ.2.1 24) len (nI i))) = M1 at hR1 hE1 ⊢
      have hA1 := (AG.rf [17, 18, 19, 20, 21, 22, 23, 24, 25, 26, 27] ρ).i (k := 24) (f := (upd (ρ.2.1 24) len (nI i))) (by decide)
      refine xw_aload_n dX10_gather_48 rfl rfl ?_
      refine xw_get (ci := 11) (k := 25) (v := .ref (B 25)) dX10_gather_49 hR1.1 rfl inX10 (by decide) tw_816 (Or.inl rfl) rfl ?_
      refine xw_aload_n dX10_gather_52 rfl rfl ?_
      refine xw_get (ci := 11) (k := 23) (v := .int ((rI ρ 24 (upd (ρ.2.1 24) len (nI i))).1 23)) dX10_gather_53 hR1.1 rfl inX10 (by decide) tw_814 (Or.inl rfl) rfl ?_
      refine xw_iload_n dX10_gather_56 rfl rfl ?_
      rw [show (rI ρ 24 (upd (ρ.2.1 24) len (nI i))).1 23 = nI len from hrd]
      refine xw_iast dX10_gather_57 (hR1.2.1 25 rfl) hinl ?_
      rw [nI_clamp hl31]
      have hR2 : RW (iput M1 (B 25) (some (ilen 25, upd ((rI ρ 24 (upd (ρ.2.1 24) len (nI i))).2.1 25) len (nI c)))) m B (rI (rI ρ 24 (upd (ρ.2.1 24) len (nI i))) 25 (upd ((rI ρ 24 (upd (ρ.2.1 24) len (nI i))).2.1 25) len (nI c))) := hR1.iset rfl
      have hE2 : EF M (iput M1 (B 25) (some (ilen 25, upd ((rI ρ 24 (upd (ρ.2.1 24) len (nI i))).2.1 25) len (nI c)))) m B := hE1.tr (EF.i rfl)
      generalize iput M1 (B 25) (some (ilen 25, upd ((rI ρ 24 (upd (ρ.2.1 24) len (nI i))).2.1 25) len (nI c))) = M2 at hR2 hE2 ⊢
      have hA2 := hA1.i (k := 25) (f := (upd ((rI ρ 24 (upd (ρ.2.1 24) len (nI i))).2.1 25) len (nI c))) (by decide)
      refine xw_iconst (v := 0) dX10_gather_58 (by decide) ?_
      refine xw_istore (L2 := [(4, .int 0), (3, .int (nI (prt o))), (0, .ref m), (1, .int (nI i)), (2, .int (nI c))]) dX10_gather_59 (by decide) rfl ?_
      obtain ⟨ρs, hρs⟩ : ∃ ρs, ρs = rI (rI ρ 24 (upd (ρ.2.1 24) len (nI i))) 25 (upd ((rI ρ 24 (upd (ρ.2.1 24) len (nI i))).2.1 25) len (nI c)) := ⟨_, rfl⟩
      rw [← hρs] at hR2 hA2
      have gX : ρs.1 23 = ρ.1 23 ∧ ρs.2.1 24 = upd (ρ.2.1 24) len (nI i) ∧ ρs.2.1 25 = upd (ρ.2.1 25) len (nI c) ∧ ρs.2.1 26 = ρ.2.1 26 ∧ ρs.2.2 27 = ρ.2.2 27 := by rw [hρs]; simp [rS_1, rS_2, rS_3, rI_1, rI_2, rI_3, rJ_1, rJ_2, rJ_3]
      have ag2 : AG [24, 25] ρ ρs := by rw [hρs]; exact ((AG.rf _ ρ).i (by decide)).i (by decide)
      refine xw_pc rfl (loop2 hfull (prt o) 0 M2 ρs (by omega) hR2 hE2 (by rw [Tq_0]; exact hT.ag ag2 (by decide)) hA2 (gX.1.trans hrd) (fun x hx => ?_) ?_ (fun x hx => ?_) (fun p' v' hp' => absurd hp' (Nat.not_lt_zero _)))
      · rw [gX.2.1, gX.2.2.1, pk_un hx, pk_un hx]; exact ⟨rfl, rfl⟩
      · rw [gX.2.1, gX.2.2.1, pk_us, pk_us]; exact ⟨rfl, rfl⟩
      · rw [gX.2.2.2.1, gX.2.2.2.2]; exact ⟨rfl, rfl⟩
    | succ q ih =>
      intro p hpq hall
      refine xw_iload dX10_gather_13 rfl ?_
      refine xw_iload_n dX10_gather_15 rfl rfl ?_
      refine xw_icmp_ge (tgt := 38) dX10_gather_16 (by decide) (fun zz => absurd zz (nI_ge (show p < prt o by omega) (by omega))) (fun _ => ?_)
      refine xw_aload_n dX10_gather_19 rfl rfl ?_
      refine xw_iload_n dX10_gather_20 rfl rfl ?_
      refine xw_iload dX10_gather_21 rfl ?_
      refine xw_iload_n dX10_gather_23 rfl rfl ?_
      refine xw_pc (pc2 := 24) rfl ?_
      refine xw_callV (q2 := mX10_waits) (n2 := 3) (ci := 11) (Bs := [.int (nI i), .int (nI p), .int (nI c)]) (rest := []) (ct_mwaits hR hT hB hi (show p < 3 by omega) hc) dX10_gather_24 rfl (o_at hR.1) rfl rfl tw_947 tw_949 tw_21 tw_47 tw_950 (by decide +kernel) rfl (Nat.le_of_ble_eq_true rfl) (Nat.le_of_ble_eq_true rfl) (Nat.le_of_ble_eq_true rfl) (fun rr M1 hr hle1 => ?_)
      obtain ⟨hM1, hq⟩ := hr
      obtain rfl := hM1.symm
      rcases hq with ⟨rfl, hno⟩ | ⟨k, w, rfl, hk⟩
      · skip
        refine xw_iconst (v := (-1)) dX10_gather_27 (by decide) ?_
        refine xw_icmp_ne (tgt := 32) dX10_gather_28 (by decide) (fun zz => absurd rfl zz) (fun _ => ?_)
        rw [hP]
        refine xw_vret rfl dX10_gather_31 ⟨rfl, Or.inl ⟨fun z => ?_, rfl⟩⟩
        obtain ⟨v, hv⟩ := z p (by omega)
        exact hno _ hv rfl
      · have hkl := (List.getElem?_eq_some_iff.mp hk).1
        have h301 := hB.1
        refine xw_iconst (v := (-1)) dX10_gather_27 (by decide) ?_
        refine xw_icmp_ne (tgt := 32) dX10_gather_28 (by decide) (fun _ => ?_) (fun zz => absurd zz (nI_m1 (show k < 2 ^ 31 by omega)))
        refine xw_iinc (v := (nI p) + 1) (L2 := [(4, .int ((nI p) + 1)), (3, .int (nI (prt o))), (0, .ref m), (1, .int (nI i)), (2, .int (nI c))]) dX10_gather_32 rfl rfl (by decide) rfl ?_
        refine xw_goto (tgt := 13) dX10_gather_35 (by decide) ?_
        rw [nI_1]
        refine ih (p + 1) (by omega) (fun p' hp' => ?_)
        by_cases e : p' = p
        · rw [e]; exact ⟨w, List.mem_of_getElem? hk⟩
        · exact hall p' (by omega)
  refine ct_go (by decide +kernel) (Nat.le_of_ble_eq_true rfl) (L := [(0, .ref m), (1, .int (nI i)), (2, .int (nI c))]) rfl ?_
  refine xw_aload_n dX10_gather_0 rfl rfl ?_
  refine xw_get (ci := 11) (k := 2) (v := .ref (B 2)) dX10_gather_1 hR.1 rfl inX10 (by decide) tw_793 (Or.inl rfl) rfl ?_
  refine xw_iload_n dX10_gather_4 rfl rfl ?_
  refine xw_iald dX10_gather_5 (hR.2.1 2 rfl) (vp_in_nI hi (by decide)) ?_
  rw [nI_clamp (by omega)]
  rw [hop]
  refine xw_callS (q2 := mX10_ports) (n2 := 1) (Bs := [.int (nI o)]) (rest := []) (ct_mports ho) dX10_gather_6 rfl tw_936 tw_937 tw_47 tw_938 (by decide +kernel) rfl (Nat.le_of_ble_eq_true rfl) (Nat.le_of_ble_eq_true rfl) (Nat.le_of_ble_eq_true rfl) (fun rr M1 hr hle1 => ?_)
  obtain ⟨rfl, hM1⟩ := hr
  obtain rfl := hM1.symm
  refine xw_istore_n (L2 := [(3, .int (nI (prt o))), (0, .ref m), (1, .int (nI i)), (2, .int (nI c))]) dX10_gather_9 rfl (by decide) rfl ?_
  refine xw_iconst (v := 0) dX10_gather_10 (by decide) ?_
  refine xw_istore (L2 := [(4, .int 0), (3, .int (nI (prt o))), (0, .ref m), (1, .int (nI i)), (2, .int (nI c))]) dX10_gather_11 (by decide) rfl ?_
  exact xw_pc rfl (loop1 (prt o) 0 (by omega) (fun p' hp' => absurd hp' (Nat.not_lt_zero _)))
end GATH
