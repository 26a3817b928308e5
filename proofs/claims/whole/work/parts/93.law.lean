/-! THE LAW'S LOOP -/
/-- the script, read only -/
def GSc (G : hx_G) (sa n : Nat) (f : Nat → Int32) : Prop := ∀ U, gK G U → va_T .int sa n (fun j => .int (f j)) (gA G) U U.heap
section LAWR
variable {Kx : Code → Prop} {Fx : hx_S → Option Value → List Frame → State → State → Prop} {G : hx_G} {d lo : Nat} {q : hx_M} {As : List Value} {M0 M : hx_S} {P : Option Value → hx_S → Prop} {pc : Nat} {L : List (Nat × Value)} {st : List Value} {sa n i t : Nat} {f : Nat → Int32} {tI s : Int32}
theorem xw_scr0 (hS : GSc G sa n f) (hd : decode q.2.1 pc = .ok (.iaload, 1)) (h : i < n) (hn : n ≤ 2560) (hs : s = f i) (kk : XWg Kx Fx G d lo q As M0 P M (pc + 1) L (.int s :: st)) : XWg Kx Fx G d lo q As M0 P M pc L (.int (nI i) :: .ref sa :: st) :=
  xw_g (fun p e R st m below meth c Q k' n' C0 hR1 hR2 H locs ls hS' hV hl kk => va_ti C0.hx C0.hb (hS _ (ks_K C0.hks)) hV (vp_in_nI h (by omega)) (by show Value.int _ = _; rw [nI_clamp (by omega), hs]) hd (kk ls hl)) kk
theorem xw_scr (hS : GSc G sa n f) (hd : decode q.2.1 pc = .ok (.iaload, 1)) (ht : tI = nI t) (h : i + t < n) (hn : n ≤ 2560) (hs : s = f (i + t)) (kk : XWg Kx Fx G d lo q As M0 P M (pc + 1) L (.int s :: st)) : XWg Kx Fx G d lo q As M0 P M pc L (.int (nI i + tI) :: .ref sa :: st) := by
  rw [ht, nI_add]
  exact xw_scr0 hS hd h hn hs kk
theorem xw_slen (hS : GSc G sa n f) (hd : decode q.2.1 pc = .ok (.arraylength, 1)) (kk : XWg Kx Fx G d lo q As M0 P M (pc + 1) L (.int (nI n) :: st)) : XWg Kx Fx G d lo q As M0 P M pc L (.ref sa :: st) :=
  xw_g (fun p e R st m below meth c Q k' n' C0 hR1 hR2 H locs ls hS' hV hl kk => va_tlen C0.hx C0.hb (hS _ (ks_K C0.hks)) hV rfl hd (kk ls hl)) kk
end LAWR
theorem cmp_self (x : Int64) : lg_cmp x x = 0 := by unfold lg_cmp; simp
theorem nI_T {n : Nat} (h : n < 2 ^ 31) : (nI n).toInt = (n : Int) := by unfold nI; exact Int32.toInt_ofNat_small (by omega)
theorem nI_sub5 {n : Nat} (h : n ≤ 2560) : (nI n - 5).toInt = (n : Int) - 5 := by
  have e5 : (5 : Int32).toInt = 5 := rfl
  rw [show (nI n - 5).toInt = (nI n).toInt - (5 : Int32).toInt from (Int32.toInt_sub _ _).trans (Int.bmod_eq_of_le (by rw [nI_T (by omega), e5]; omega) (by rw [nI_T (by omega), e5]; omega)), nI_T (by omega), e5]
theorem end5 {n i : Nat} (hn : n ≤ 2560) (hi : i ≤ n) (h : ¬ i + 5 ≤ n) : nI n - 5 < nI i := by
  rw [Int32.lt_iff_toInt_lt, nI_sub5 hn, nI_T (by omega)]; omega
theorem go5 {n i : Nat} (hn : n ≤ 2560) (h : i + 5 ≤ n) : ¬ nI n - 5 < nI i := by
  rw [Int32.lt_iff_toInt_lt, nI_sub5 hn, nI_T (by omega)]; omega
theorem and15 (x : Int32) : ∃ k, k < 16 ∧ x &&& 15 = nI k := by
  refine ⟨(x &&& 15).toBitVec.toNat, ?_, ?_⟩
  · have e : (x &&& 15).toBitVec.toNat = x.toBitVec.toNat &&& 15 := by simp
    rw [e]
    exact Nat.lt_of_le_of_lt Nat.and_le_right (by decide)
  · unfold nI
    apply Int32.toBitVec_inj.mp
    simp
section LAW
variable {G : hx_G} {M M0 M1 : hx_S} {A : hA} {Γ : hG} {σ : hs_S} {γ : hf_S} {b m ao sa n i : Nat} {B : Nat → Nat} {th : Int32} {K : Nat → Int32} {V : Nat → Int64} {g : Nat → Int64} {f : Nat → Int32} {P : Option Value → hx_S → Prop} {s1 s2 s3 s4 : Int32}
/-- what stands at the loop's end, after a call -/
def LF (G : hx_G) (M0 : hx_S) (P : Option Value → hx_S → Prop) (A : hA) (B : Nat → Nat) (m ao sa i b : Nat) : Prop :=
  ∀ (M' : hx_S) (σ' : hs_S) (Γ' : hG) (γ' : hf_S) (th' : Int32) (K' : Nat → Int32) (V' : Nat → Int64) (g' : Nat → Int64), Rep M' A Γ' σ' γ' (b + 300 + 2400 * sAl σ') → RM M' m B σ' th' K' V' → GN σ' → GK σ' → Sj M' ao = some (1, g') →
    XW G 14 338 mL_law [.ref sa] M0 P M' 758 [(4, .int (nI i)), (3, .ref ao), (2, .ref m), (1, .ref (aT A)), (0, .ref sa)] []
/-- what stands before a call -/
def LB (M : hx_S) (A : hA) (Γ : hG) (σ : hs_S) (γ : hf_S) (B : Nat → Nat) (m ao b : Nat) (th : Int32) (K : Nat → Int32) (V : Nat → Int64) (g : Nat → Int64) : Prop :=
  Rep M A Γ σ γ (b + 2400 * sAl σ) ∧ RM M m B σ th K V ∧ GN σ ∧ GK σ ∧ Sj M ao = some (1, g) ∧ FX A B ao ∧ b + 12003400 ≤ 14400000
theorem law_arc (hX : GX G) (hS : GSc G sa n f) (hn : n ≤ 2560) (hi : i + 5 ≤ n) (hL : LB M A Γ σ γ B m ao b th K V g) (fin : LF G M0 P A B m ao sa i b) : XW G 14 338 mL_law [.ref sa] M0 P M 164 [(4, .int (nI i)), (3, .ref ao), (2, .ref m), (1, .ref (aT A)), (0, .ref sa)] [] := by
  obtain ⟨h, hR, hN, hK, hg, hF, hb⟩ := hL
  have hGS := h.2.2
  have h5 := h.2.2.2.2.2.2.2.2.2.2.1.2.2.2.1
  obtain ⟨s1, e1⟩ : ∃ s1, s1 = f (i + 1) := ⟨_, rfl⟩
  obtain ⟨s2, e2⟩ : ∃ s2, s2 = f (i + 2) := ⟨_, rfl⟩
  obtain ⟨s3, e3⟩ : ∃ s3, s3 = f (i + 3) := ⟨_, rfl⟩
  obtain ⟨s4, e4⟩ : ∃ s4, s4 = f (i + 4) := ⟨_, rfl⟩
  refine xw_aload_n dL_law_164 rfl rfl ?_
  refine xw_aload_n dL_law_165 rfl rfl ?_
  refine xw_iload dL_law_166 rfl ?_
  refine xw_iconst (v := 1) dL_law_168 (by decide) ?_
  refine xw_iadd dL_law_169 ?_
  refine xw_scr (t := 1) hS dL_law_170 rfl (by omega) hn e1 ?_
  refine xw_aload_n dL_law_171 rfl rfl ?_
  refine xw_iload dL_law_172 rfl ?_
  refine xw_iconst (v := 2) dL_law_174 (by decide) ?_
  refine xw_iadd dL_law_175 ?_
  refine xw_scr (t := 2) hS dL_law_176 rfl (by omega) hn e2 ?_
  refine xw_aload_n dL_law_177 rfl rfl ?_
  refine xw_iload dL_law_178 rfl ?_
  refine xw_iconst (v := 3) dL_law_180 (by decide) ?_
  refine xw_iadd dL_law_181 ?_
  refine xw_pc (pc2 := 182) rfl ?_
  refine xw_scr (t := 3) hS dL_law_182 rfl (by omega) hn e3 ?_
  refine xw_aload_n dL_law_183 rfl rfl ?_
  refine xw_iload dL_law_184 rfl ?_
  refine xw_iconst (v := 4) dL_law_186 (by decide) ?_
  refine xw_iadd dL_law_187 ?_
  refine xw_scr (t := 4) hS dL_law_188 rfl (by omega) hn e4 ?_
  refine xw_callV (q2 := mX9_arc) (n2 := 4) (ci := 10) (Bs := [.int s1, .int s2, .int s3, .int s4]) (rest := []) (ct_arc h (by omega)) dL_law_189 rfl (o_at h.1) rfl rfl tw_220 tw_221 tw_222 tw_39 tw_223 (by decide +kernel) rfl (Nat.le_of_ble_eq_true rfl) (Nat.le_of_ble_eq_true rfl) (Nat.le_of_ble_eq_true rfl) (fun rr M1 hr hle1 => ?_)
  obtain ⟨rfl, γ1, h, hE⟩ := hr
  replace hR := hR.xe hE hF.1
  replace hg := sj_xe hE hg
  refine xw_aload_n dL_law_192 rfl rfl ?_
  refine xw_aload_n dL_law_193 rfl rfl ?_
  refine xw_iload dL_law_194 rfl ?_
  refine xw_iconst (v := 1) dL_law_196 (by decide) ?_
  refine xw_iadd dL_law_197 ?_
  refine xw_scr (t := 1) hS dL_law_198 rfl (by omega) hn e1 ?_
  refine xw_aload_n dL_law_199 rfl rfl ?_
  refine xw_iload dL_law_200 rfl ?_
  refine xw_iconst (v := 2) dL_law_202 (by decide) ?_
  refine xw_iadd dL_law_203 ?_
  refine xw_pc (pc2 := 204) rfl ?_
  refine xw_scr (t := 2) hS dL_law_204 rfl (by omega) hn e2 ?_
  refine xw_aload_n dL_law_205 rfl rfl ?_
  refine xw_iload dL_law_206 rfl ?_
  refine xw_iconst (v := 3) dL_law_208 (by decide) ?_
  refine xw_iadd dL_law_209 ?_
  refine xw_scr (t := 3) hS dL_law_210 rfl (by omega) hn e3 ?_
  refine xw_aload_n dL_law_211 rfl rfl ?_
  refine xw_iload dL_law_212 rfl ?_
  refine xw_iconst (v := 4) dL_law_214 (by decide) ?_
  refine xw_iadd dL_law_215 ?_
  refine xw_scr (t := 4) hS dL_law_216 rfl (by omega) hn e4 ?_
  refine xw_callV (q2 := mX10_arc) (n2 := 4) (ci := 11) (Bs := [.int s1, .int s2, .int s3, .int s4]) (rest := [.int (if arcC σ s1 s2 s3 s4 then 1 else 0)]) (ct_marc hR hGS) dL_law_217 rfl (hR.at) rfl rfl tw_928 tw_929 tw_930 tw_47 tw_931 (by decide +kernel) rfl (Nat.le_of_ble_eq_true rfl) (Nat.le_of_ble_eq_true rfl) (Nat.le_of_ble_eq_true rfl) (fun rr M1 hr hle1 => ?_)
  obtain ⟨rfl, hR, hE⟩ := hr
  refine xw_icmp_eq (tgt := 758) dL_law_220 (by decide) (fun _ => ?_) (fun zz => absurd rfl zz)
  refine xw_mem (L2 := [(4, .int (nI i)), (3, .ref ao), (2, .ref m), (1, .ref (aT A)), (0, .ref sa)]) (by simp) ?_
  exact fin _ _ Γ γ1 _ _ _ g ((h.ef hE hF.1).mono (by rw [sAl_arcS]; omega)) hR (hN.arcS hGS) (hK.arcS hGS) (sj_ef hE hF hg)
theorem law_token (hX : GX G) (hS : GSc G sa n f) (hn : n ≤ 2560) (hi : i + 5 ≤ n) (hL : LB M A Γ σ γ B m ao b th K V g) (fin : LF G M0 P A B m ao sa i b) : XW G 14 338 mL_law [.ref sa] M0 P M 225 [(4, .int (nI i)), (3, .ref ao), (2, .ref m), (1, .ref (aT A)), (0, .ref sa)] [] := by
  obtain ⟨h, hR, hN, hK, hg, hF, hb⟩ := hL
  have hGS := h.2.2
  have h5 := h.2.2.2.2.2.2.2.2.2.2.1.2.2.2.1
  obtain ⟨s1, e1⟩ : ∃ s1, s1 = f (i + 1) := ⟨_, rfl⟩
  obtain ⟨s2, e2⟩ : ∃ s2, s2 = f (i + 2) := ⟨_, rfl⟩
  obtain ⟨s3, e3⟩ : ∃ s3, s3 = f (i + 3) := ⟨_, rfl⟩
  obtain ⟨s4, e4⟩ : ∃ s4, s4 = f (i + 4) := ⟨_, rfl⟩
  refine xw_aload_n dL_law_225 rfl rfl ?_
  refine xw_aload_n dL_law_226 rfl rfl ?_
  refine xw_iload dL_law_227 rfl ?_
  refine xw_iconst (v := 1) dL_law_229 (by decide) ?_
  refine xw_iadd dL_law_230 ?_
  refine xw_pc (pc2 := 231) rfl ?_
  refine xw_scr (t := 1) hS dL_law_231 rfl (by omega) hn e1 ?_
  refine xw_aload_n dL_law_232 rfl rfl ?_
  refine xw_iload dL_law_233 rfl ?_
  refine xw_iconst (v := 2) dL_law_235 (by decide) ?_
  refine xw_iadd dL_law_236 ?_
  refine xw_scr (t := 2) hS dL_law_237 rfl (by omega) hn e2 ?_
  refine xw_aload_n dL_law_238 rfl rfl ?_
  refine xw_iload dL_law_239 rfl ?_
  refine xw_iconst (v := 3) dL_law_241 (by decide) ?_
  refine xw_iadd dL_law_242 ?_
  refine xw_scr (t := 3) hS dL_law_243 rfl (by omega) hn e3 ?_
  refine xw_i2l dL_law_244 ?_
  refine xw_bipush (v := 32) dL_law_245 (by decide) ?_
  refine xw_lshl dL_law_247 ?_
  refine xw_aload_n dL_law_248 rfl rfl ?_
  refine xw_iload dL_law_249 rfl ?_
  refine xw_iconst (v := 4) dL_law_251 (by decide) ?_
  refine xw_iadd dL_law_252 ?_
  refine xw_pc (pc2 := 253) rfl ?_
  refine xw_scr (t := 4) hS dL_law_253 rfl (by omega) hn e4 ?_
  refine xw_i2l dL_law_254 ?_
  refine xw_ldc2 (v := 4294967295) tw_1052 dL_law_255 ?_
  refine xw_land dL_law_258 ?_
  refine xw_lor dL_law_259 ?_
  refine xw_callV (q2 := mX9_token) (n2 := 3) (ci := 10) (Bs := [.int s1, .int s2, .long ((s3.toInt64 <<< ((32 : Int32).toInt64 &&& 63)) ||| (s4.toInt64 &&& 4294967295))]) (rest := []) (ct_token h (by omega)) dL_law_260 rfl (o_at h.1) rfl rfl tw_341 tw_342 tw_343 tw_39 tw_344 (by decide +kernel) rfl (Nat.le_of_ble_eq_true rfl) (Nat.le_of_ble_eq_true rfl) (Nat.le_of_ble_eq_true rfl) (fun rr M1 hr hle1 => ?_)
  obtain ⟨rfl, γ1, h, hE⟩ := hr
  replace hR := hR.xe hE hF.1
  replace hg := sj_xe hE hg
  refine xw_aload_n dL_law_263 rfl rfl ?_
  refine xw_aload_n dL_law_264 rfl rfl ?_
  refine xw_iload dL_law_265 rfl ?_
  refine xw_iconst (v := 1) dL_law_267 (by decide) ?_
  refine xw_iadd dL_law_268 ?_
  refine xw_scr (t := 1) hS dL_law_269 rfl (by omega) hn e1 ?_
  refine xw_aload_n dL_law_270 rfl rfl ?_
  refine xw_iload dL_law_271 rfl ?_
  refine xw_iconst (v := 2) dL_law_273 (by decide) ?_
  refine xw_iadd dL_law_274 ?_
  refine xw_pc (pc2 := 275) rfl ?_
  refine xw_scr (t := 2) hS dL_law_275 rfl (by omega) hn e2 ?_
  refine xw_aload_n dL_law_276 rfl rfl ?_
  refine xw_iload dL_law_277 rfl ?_
  refine xw_iconst (v := 3) dL_law_279 (by decide) ?_
  refine xw_iadd dL_law_280 ?_
  refine xw_scr (t := 3) hS dL_law_281 rfl (by omega) hn e3 ?_
  refine xw_i2l dL_law_282 ?_
  refine xw_bipush (v := 32) dL_law_283 (by decide) ?_
  refine xw_lshl dL_law_285 ?_
  refine xw_aload_n dL_law_286 rfl rfl ?_
  refine xw_iload dL_law_287 rfl ?_
  refine xw_iconst (v := 4) dL_law_289 (by decide) ?_
  refine xw_iadd dL_law_290 ?_
  refine xw_scr (t := 4) hS dL_law_291 rfl (by omega) hn e4 ?_
  refine xw_i2l dL_law_292 ?_
  refine xw_ldc2 (v := 4294967295) tw_1052 dL_law_293 ?_
  refine xw_land dL_law_296 ?_
  refine xw_lor dL_law_297 ?_
  refine xw_pc (pc2 := 298) rfl ?_
  refine xw_callV (q2 := mX10_token) (n2 := 3) (ci := 11) (Bs := [.int s1, .int s2, .long ((s3.toInt64 <<< ((32 : Int32).toInt64 &&& 63)) ||| (s4.toInt64 &&& 4294967295))]) (rest := [.int (if tokC σ s1 s2 then 1 else 0)]) (ct_mtoken hR hGS) dL_law_298 rfl (hR.at) rfl rfl tw_939 tw_940 tw_941 tw_47 tw_942 (by decide +kernel) rfl (Nat.le_of_ble_eq_true rfl) (Nat.le_of_ble_eq_true rfl) (Nat.le_of_ble_eq_true rfl) (fun rr M1 hr hle1 => ?_)
  obtain ⟨rfl, hR, hE⟩ := hr
  refine xw_icmp_eq (tgt := 758) dL_law_301 (by decide) (fun _ => ?_) (fun zz => absurd rfl zz)
  refine xw_mem (L2 := [(4, .int (nI i)), (3, .ref ao), (2, .ref m), (1, .ref (aT A)), (0, .ref sa)]) (by simp) ?_
  exact fin _ _ Γ γ1 _ _ _ g ((h.ef hE hF.1).mono (by rw [sAl_tokS]; omega)) hR hN.tokS hK.tokS (sj_ef hE hF hg)
theorem law_ready (hX : GX G) (hS : GSc G sa n f) (hn : n ≤ 2560) (hi : i + 5 ≤ n) (hL : LB M A Γ σ γ B m ao b th K V g) (fin : LF G M0 P A B m ao sa i b) : XW G 14 338 mL_law [.ref sa] M0 P M 445 [(4, .int (nI i)), (3, .ref ao), (2, .ref m), (1, .ref (aT A)), (0, .ref sa)] [] := by
  obtain ⟨h, hR, hN, hK, hg, hF, hb⟩ := hL
  have hGS := h.2.2
  have h5 := h.2.2.2.2.2.2.2.2.2.2.1.2.2.2.1
  obtain ⟨s1, e1⟩ : ∃ s1, s1 = f (i + 1) := ⟨_, rfl⟩
  obtain ⟨s2, e2⟩ : ∃ s2, s2 = f (i + 2) := ⟨_, rfl⟩
  obtain ⟨s3, e3⟩ : ∃ s3, s3 = f (i + 3) := ⟨_, rfl⟩
  obtain ⟨s4, e4⟩ : ∃ s4, s4 = f (i + 4) := ⟨_, rfl⟩
  refine xw_aload_n dL_law_445 rfl rfl ?_
  refine xw_aload_n dL_law_446 rfl rfl ?_
  refine xw_iload dL_law_447 rfl ?_
  refine xw_iconst (v := 1) dL_law_449 (by decide) ?_
  refine xw_iadd dL_law_450 ?_
  refine xw_scr (t := 1) hS dL_law_451 rfl (by omega) hn e1 ?_
  refine xw_aload_n dL_law_452 rfl rfl ?_
  refine xw_iload dL_law_453 rfl ?_
  refine xw_iconst (v := 2) dL_law_455 (by decide) ?_
  refine xw_iadd dL_law_456 ?_
  refine xw_scr (t := 2) hS dL_law_457 rfl (by omega) hn e2 ?_
  refine xw_callV (q2 := mX9_ready) (n2 := 2) (ci := 10) (Bs := [.int s1, .int s2]) (rest := []) (ct_ready h (by omega)) dL_law_458 rfl (o_at h.1) rfl rfl tw_450 tw_451 tw_452 tw_39 tw_453 (by decide +kernel) rfl (Nat.le_of_ble_eq_true rfl) (Nat.le_of_ble_eq_true rfl) (Nat.le_of_ble_eq_true rfl) (fun rr M1 hr hle1 => ?_)
  obtain ⟨rfl, hM1⟩ := hr
  obtain rfl := hM1.symm
  refine xw_aload_n dL_law_461 rfl rfl ?_
  refine xw_aload_n dL_law_462 rfl rfl ?_
  refine xw_iload dL_law_463 rfl ?_
  refine xw_iconst (v := 1) dL_law_465 (by decide) ?_
  refine xw_iadd dL_law_466 ?_
  refine xw_pc (pc2 := 467) rfl ?_
  refine xw_scr (t := 1) hS dL_law_467 rfl (by omega) hn e1 ?_
  refine xw_aload_n dL_law_468 rfl rfl ?_
  refine xw_iload dL_law_469 rfl ?_
  refine xw_iconst (v := 2) dL_law_471 (by decide) ?_
  refine xw_iadd dL_law_472 ?_
  refine xw_scr (t := 2) hS dL_law_473 rfl (by omega) hn e2 ?_
  refine xw_callV (q2 := mX10_ready) (n2 := 2) (ci := 11) (Bs := [.int s1, .int s2]) (rest := [.int (rdy σ s1 s2)]) (ct_mready hR hGS) dL_law_474 rfl (hR.at) rfl rfl tw_1028 tw_1029 tw_1030 tw_47 tw_1031 (by decide +kernel) rfl (Nat.le_of_ble_eq_true rfl) (Nat.le_of_ble_eq_true rfl) (Nat.le_of_ble_eq_true rfl) (fun rr M1 hr hle1 => ?_)
  obtain ⟨rfl, hR, hE⟩ := hr
  refine xw_icmp_eq (tgt := 758) dL_law_477 (by decide) (fun _ => ?_) (fun zz => absurd rfl zz)
  refine xw_mem (L2 := [(4, .int (nI i)), (3, .ref ao), (2, .ref m), (1, .ref (aT A)), (0, .ref sa)]) (by simp) ?_
  exact fin _ _ Γ γ _ _ _ g ((h.ef hE hF.1).mono (by omega)) hR hN hK (sj_ef hE hF hg)
theorem law_waiting (hX : GX G) (hS : GSc G sa n f) (hn : n ≤ 2560) (hi : i + 5 ≤ n) (hL : LB M A Γ σ γ B m ao b th K V g) (fin : LF G M0 P A B m ao sa i b) : XW G 14 338 mL_law [.ref sa] M0 P M 696 [(4, .int (nI i)), (3, .ref ao), (2, .ref m), (1, .ref (aT A)), (0, .ref sa)] [] := by
  obtain ⟨h, hR, hN, hK, hg, hF, hb⟩ := hL
  have hGS := h.2.2
  have h5 := h.2.2.2.2.2.2.2.2.2.2.1.2.2.2.1
  obtain ⟨s1, e1⟩ : ∃ s1, s1 = f (i + 1) := ⟨_, rfl⟩
  obtain ⟨s2, e2⟩ : ∃ s2, s2 = f (i + 2) := ⟨_, rfl⟩
  obtain ⟨s3, e3⟩ : ∃ s3, s3 = f (i + 3) := ⟨_, rfl⟩
  obtain ⟨s4, e4⟩ : ∃ s4, s4 = f (i + 4) := ⟨_, rfl⟩
  refine xw_aload_n dL_law_696 rfl rfl ?_
  refine xw_aload_n dL_law_697 rfl rfl ?_
  refine xw_iload dL_law_698 rfl ?_
  refine xw_iconst (v := 1) dL_law_700 (by decide) ?_
  refine xw_iadd dL_law_701 ?_
  refine xw_scr (t := 1) hS dL_law_702 rfl (by omega) hn e1 ?_
  refine xw_aload_n dL_law_703 rfl rfl ?_
  refine xw_iload dL_law_704 rfl ?_
  refine xw_iconst (v := 2) dL_law_706 (by decide) ?_
  refine xw_iadd dL_law_707 ?_
  refine xw_pc (pc2 := 708) rfl ?_
  refine xw_scr (t := 2) hS dL_law_708 rfl (by omega) hn e2 ?_
  refine xw_callV (q2 := mX9_waiting) (n2 := 2) (ci := 10) (Bs := [.int s1, .int s2]) (rest := []) (ct_waiting h (by omega)) dL_law_709 rfl (o_at h.1) rfl rfl tw_455 tw_456 tw_457 tw_39 tw_458 (by decide +kernel) rfl (Nat.le_of_ble_eq_true rfl) (Nat.le_of_ble_eq_true rfl) (Nat.le_of_ble_eq_true rfl) (fun rr M1 hr hle1 => ?_)
  obtain ⟨rfl, hM1⟩ := hr
  obtain rfl := hM1.symm
  refine xw_aload_n dL_law_712 rfl rfl ?_
  refine xw_aload_n dL_law_713 rfl rfl ?_
  refine xw_iload dL_law_714 rfl ?_
  refine xw_iconst (v := 1) dL_law_716 (by decide) ?_
  refine xw_iadd dL_law_717 ?_
  refine xw_scr (t := 1) hS dL_law_718 rfl (by omega) hn e1 ?_
  refine xw_aload_n dL_law_719 rfl rfl ?_
  refine xw_iload dL_law_720 rfl ?_
  refine xw_iconst (v := 2) dL_law_722 (by decide) ?_
  refine xw_iadd dL_law_723 ?_
  refine xw_scr (t := 2) hS dL_law_724 rfl (by omega) hn e2 ?_
  refine xw_callV (q2 := mX10_waiting) (n2 := 2) (ci := 11) (Bs := [.int s1, .int s2]) (rest := [.int (waitg σ s1 s2)]) (ct_mwaiting hR hGS) dL_law_725 rfl (hR.at) rfl rfl tw_1044 tw_1045 tw_1046 tw_47 tw_1047 (by decide +kernel) rfl (Nat.le_of_ble_eq_true rfl) (Nat.le_of_ble_eq_true rfl) (Nat.le_of_ble_eq_true rfl) (fun rr M1 hr hle1 => ?_)
  obtain ⟨rfl, hR, hE⟩ := hr
  refine xw_icmp_eq (tgt := 758) dL_law_728 (by decide) (fun _ => ?_) (fun zz => absurd rfl zz)
  refine xw_mem (L2 := [(4, .int (nI i)), (3, .ref ao), (2, .ref m), (1, .ref (aT A)), (0, .ref sa)]) (by simp) ?_
  exact fin _ _ Γ γ _ _ _ g ((h.ef hE hF.1).mono (by omega)) hR hN hK (sj_ef hE hF hg)
theorem law_total (hX : GX G) (hS : GSc G sa n f) (hn : n ≤ 2560) (hi : i + 5 ≤ n) (hL : LB M A Γ σ γ B m ao b th K V g) (fin : LF G M0 P A B m ao sa i b) : XW G 14 338 mL_law [.ref sa] M0 P M 733 [(4, .int (nI i)), (3, .ref ao), (2, .ref m), (1, .ref (aT A)), (0, .ref sa)] [] := by
  obtain ⟨h, hR, hN, hK, hg, hF, hb⟩ := hL
  have hGS := h.2.2
  have h5 := h.2.2.2.2.2.2.2.2.2.2.1.2.2.2.1
  obtain ⟨s1, e1⟩ : ∃ s1, s1 = f (i + 1) := ⟨_, rfl⟩
  obtain ⟨s2, e2⟩ : ∃ s2, s2 = f (i + 2) := ⟨_, rfl⟩
  obtain ⟨s3, e3⟩ : ∃ s3, s3 = f (i + 3) := ⟨_, rfl⟩
  obtain ⟨s4, e4⟩ : ∃ s4, s4 = f (i + 4) := ⟨_, rfl⟩
  refine xw_aload_n dL_law_733 rfl rfl ?_
  refine xw_aload_n dL_law_734 rfl rfl ?_
  refine xw_iload dL_law_735 rfl ?_
  refine xw_iconst (v := 1) dL_law_737 (by decide) ?_
  refine xw_iadd dL_law_738 ?_
  refine xw_pc (pc2 := 739) rfl ?_
  refine xw_scr (t := 1) hS dL_law_739 rfl (by omega) hn e1 ?_
  refine xw_callV (q2 := mX9_total) (n2 := 1) (ci := 10) (Bs := [.int s1]) (rest := []) (ct_total h) dL_law_740 rfl (o_at h.1) rfl rfl tw_463 tw_464 tw_465 tw_39 tw_466 (by decide +kernel) rfl (Nat.le_of_ble_eq_true rfl) (Nat.le_of_ble_eq_true rfl) (Nat.le_of_ble_eq_true rfl) (fun rr M1 hr hle1 => ?_)
  obtain ⟨rfl, hM1⟩ := hr
  obtain rfl := hM1.symm
  refine xw_aload_n dL_law_743 rfl rfl ?_
  refine xw_aload_n dL_law_744 rfl rfl ?_
  refine xw_iload dL_law_745 rfl ?_
  refine xw_iconst (v := 1) dL_law_747 (by decide) ?_
  refine xw_iadd dL_law_748 ?_
  refine xw_scr (t := 1) hS dL_law_749 rfl (by omega) hn e1 ?_
  refine xw_callV (q2 := mX10_total) (n2 := 1) (ci := 11) (Bs := [.int s1]) (rest := [.int (tot σ s1)]) (ct_mtotal hR hGS) dL_law_750 rfl (hR.at) rfl rfl tw_1048 tw_1049 tw_1050 tw_47 tw_1051 (by decide +kernel) rfl (Nat.le_of_ble_eq_true rfl) (Nat.le_of_ble_eq_true rfl) (Nat.le_of_ble_eq_true rfl) (fun rr M1 hr hle1 => ?_)
  obtain ⟨rfl, hR, hE⟩ := hr
  refine xw_icmp_eq (tgt := 758) dL_law_753 (by decide) (fun _ => ?_) (fun zz => absurd rfl zz)
  refine xw_mem (L2 := [(4, .int (nI i)), (3, .ref ao), (2, .ref m), (1, .ref (aT A)), (0, .ref sa)]) (by simp) ?_
  exact fin _ _ Γ γ _ _ _ g ((h.ef hE hF.1).mono (by omega)) hR hN hK (sj_ef hE hF hg)
theorem law_clear (hX : GX G) (hS : GSc G sa n f) (hn : n ≤ 2560) (hi : i + 5 ≤ n) (hL : LB M A Γ σ γ B m ao b th K V g) (fin : LF G M0 P A B m ao sa i b) : XW G 14 338 mL_law [.ref sa] M0 P M 406 [(4, .int (nI i)), (3, .ref ao), (2, .ref m), (1, .ref (aT A)), (0, .ref sa)] [] := by
  obtain ⟨h, hR, hN, hK, hg, hF, hb⟩ := hL
  have hGS := h.2.2
  have h5 := h.2.2.2.2.2.2.2.2.2.2.1.2.2.2.1
  obtain ⟨s1, e1⟩ : ∃ s1, s1 = f (i + 1) := ⟨_, rfl⟩
  obtain ⟨s2, e2⟩ : ∃ s2, s2 = f (i + 2) := ⟨_, rfl⟩
  obtain ⟨s3, e3⟩ : ∃ s3, s3 = f (i + 3) := ⟨_, rfl⟩
  obtain ⟨s4, e4⟩ : ∃ s4, s4 = f (i + 4) := ⟨_, rfl⟩
  refine xw_aload_n dL_law_406 rfl rfl ?_
  refine xw_aload_n dL_law_407 rfl rfl ?_
  refine xw_iload dL_law_408 rfl ?_
  refine xw_iconst (v := 1) dL_law_410 (by decide) ?_
  refine xw_iadd dL_law_411 ?_
  refine xw_scr (t := 1) hS dL_law_412 rfl (by omega) hn e1 ?_
  by_cases z : s1 = 0
  · skip
    refine xw_if_eq (tgt := 420) dL_law_413 (by decide) (fun _ => ?_) (fun zz => absurd z zz)
    refine xw_iconst (v := 0) dL_law_420 (by decide) ?_
    refine xw_callV (q2 := mX9_clear) (n2 := 1) (ci := 10) (Bs := [.int 0]) (rest := []) (ct_clear h (by omega)) dL_law_421 rfl (o_at h.1) rfl rfl tw_419 tw_420 tw_421 tw_39 tw_422 (by decide +kernel) rfl (Nat.le_of_ble_eq_true rfl) (Nat.le_of_ble_eq_true rfl) (Nat.le_of_ble_eq_true rfl) (fun rr M1 hr hle1 => ?_)
    obtain ⟨rfl, γ1, h, hE⟩ := hr
    replace hR := hR.xe hE hF.1
    replace hg := sj_xe hE hg
    refine xw_aload_n dL_law_424 rfl rfl ?_
    refine xw_aload_n dL_law_425 rfl rfl ?_
    refine xw_iload dL_law_426 rfl ?_
    refine xw_iconst (v := 1) dL_law_428 (by decide) ?_
    refine xw_iadd dL_law_429 ?_
    refine xw_pc (pc2 := 430) rfl ?_
    refine xw_scr (t := 1) hS dL_law_430 rfl (by omega) hn e1 ?_
    refine xw_if_eq (tgt := 438) dL_law_431 (by decide) (fun _ => ?_) (fun zz => absurd z zz)
    refine xw_iconst (v := 0) dL_law_438 (by decide) ?_
    refine xw_callV (q2 := mX10_clear) (n2 := 1) (ci := 11) (Bs := [.int 0]) (rest := []) (ct_mclear hR hGS) dL_law_439 rfl (hR.at) rfl rfl tw_1024 tw_1025 tw_1026 tw_47 tw_1027 (by decide +kernel) rfl (Nat.le_of_ble_eq_true rfl) (Nat.le_of_ble_eq_true rfl) (Nat.le_of_ble_eq_true rfl) (fun rr M1 hr hle1 => ?_)
    obtain ⟨rfl, hR, hE⟩ := hr
    refine xw_goto (tgt := 758) dL_law_442 (by decide) ?_
    refine xw_mem (L2 := [(4, .int (nI i)), (3, .ref ao), (2, .ref m), (1, .ref (aT A)), (0, .ref sa)]) (by simp) ?_
    exact fin _ _ Γ γ1 _ _ _ g ((h.ef hE hF.1).mono (by rw [sAl_clr]; omega)) hR (hN.clr (Or.inl rfl)) GK.clr (sj_ef hE hF hg)
  · skip
    refine xw_if_eq (tgt := 420) dL_law_413 (by decide) (fun zz => absurd zz z) (fun _ => ?_)
    refine xw_iconst (v := 1) dL_law_416 (by decide) ?_
    refine xw_goto (tgt := 421) dL_law_417 (by decide) ?_
    refine xw_callV (q2 := mX9_clear) (n2 := 1) (ci := 10) (Bs := [.int 1]) (rest := []) (ct_clear h (by omega)) dL_law_421 rfl (o_at h.1) rfl rfl tw_419 tw_420 tw_421 tw_39 tw_422 (by decide +kernel) rfl (Nat.le_of_ble_eq_true rfl) (Nat.le_of_ble_eq_true rfl) (Nat.le_of_ble_eq_true rfl) (fun rr M1 hr hle1 => ?_)
    obtain ⟨rfl, γ1, h, hE⟩ := hr
    replace hR := hR.xe hE hF.1
    replace hg := sj_xe hE hg
    refine xw_aload_n dL_law_424 rfl rfl ?_
    refine xw_aload_n dL_law_425 rfl rfl ?_
    refine xw_iload dL_law_426 rfl ?_
    refine xw_iconst (v := 1) dL_law_428 (by decide) ?_
    refine xw_iadd dL_law_429 ?_
    refine xw_scr (t := 1) hS dL_law_430 rfl (by omega) hn e1 ?_
    refine xw_if_eq (tgt := 438) dL_law_431 (by decide) (fun zz => absurd zz z) (fun _ => ?_)
    refine xw_iconst (v := 1) dL_law_434 (by decide) ?_
    refine xw_goto (tgt := 439) dL_law_435 (by decide) ?_
    refine xw_callV (q2 := mX10_clear) (n2 := 1) (ci := 11) (Bs := [.int 1]) (rest := []) (ct_mclear hR hGS) dL_law_439 rfl (hR.at) rfl rfl tw_1024 tw_1025 tw_1026 tw_47 tw_1027 (by decide +kernel) rfl (Nat.le_of_ble_eq_true rfl) (Nat.le_of_ble_eq_true rfl) (Nat.le_of_ble_eq_true rfl) (fun rr M1 hr hle1 => ?_)
    obtain ⟨rfl, hR, hE⟩ := hr
    refine xw_goto (tgt := 758) dL_law_442 (by decide) ?_
    refine xw_mem (L2 := [(4, .int (nI i)), (3, .ref ao), (2, .ref m), (1, .ref (aT A)), (0, .ref sa)]) (by simp) ?_
    exact fin _ _ Γ γ1 _ _ _ g ((h.ef hE hF.1).mono (by rw [sAl_clr]; omega)) hR (hN.clr (Or.inr rfl)) GK.clr (sj_ef hE hF hg)
theorem law_node (hX : GX G) (hS : GSc G sa n f) (hn : n ≤ 2560) (hi : i + 5 ≤ n) (hL : LB M A Γ σ γ B m ao b th K V g) (fin : LF G M0 P A B m ao sa i b) : XW G 14 338 mL_law [.ref sa] M0 P M 96 [(4, .int (nI i)), (3, .ref ao), (2, .ref m), (1, .ref (aT A)), (0, .ref sa)] [] := by
  obtain ⟨h, hR, hN, hK, hg, hF, hb⟩ := hL
  have hGS := h.2.2
  have h5 := h.2.2.2.2.2.2.2.2.2.2.1.2.2.2.1
  obtain ⟨s1, e1⟩ : ∃ s1, s1 = f (i + 1) := ⟨_, rfl⟩
  obtain ⟨s2, e2⟩ : ∃ s2, s2 = f (i + 2) := ⟨_, rfl⟩
  obtain ⟨s3, e3⟩ : ∃ s3, s3 = f (i + 3) := ⟨_, rfl⟩
  obtain ⟨s4, e4⟩ : ∃ s4, s4 = f (i + 4) := ⟨_, rfl⟩
  refine xw_aload_n dL_law_96 rfl rfl ?_
  refine xw_aload_n dL_law_97 rfl rfl ?_
  refine xw_iload dL_law_98 rfl ?_
  refine xw_iconst (v := 1) dL_law_100 (by decide) ?_
  refine xw_iadd dL_law_101 ?_
  refine xw_pc (pc2 := 102) rfl ?_
  refine xw_scr (t := 1) hS dL_law_102 rfl (by omega) hn e1 ?_
  refine xw_aload_n dL_law_103 rfl rfl ?_
  refine xw_iload dL_law_104 rfl ?_
  refine xw_iconst (v := 2) dL_law_106 (by decide) ?_
  refine xw_iadd dL_law_107 ?_
  refine xw_scr (t := 2) hS dL_law_108 rfl (by omega) hn e2 ?_
  refine xw_aload_n dL_law_109 rfl rfl ?_
  refine xw_callW (q2 := mL_node) (hh := hL_node) (n2 := 4) (Bs := [.ref (aT A), .int s1, .int s2, .ref ao]) (rest := []) (ctw_node hX h (by omega) hR hg hF) dL_law_110 rfl tw_467 tw_468 tw_38 tw_469 (by decide +kernel) rfl (Nat.le_of_ble_eq_true rfl) (Nat.le_of_ble_eq_true rfl) (Nat.le_of_ble_eq_true rfl) (fun rr M1 hr hle1 => ?_)
  obtain ⟨rfl, ⟨Γ1, γ1, h⟩, hR, g1, hg, hv⟩ := hr
  refine xw_istore (L2 := [(5, .int (nodK σ s1)), (4, .int (nI i)), (3, .ref ao), (2, .ref m), (1, .ref (aT A)), (0, .ref sa)]) dL_law_113 (by decide) rfl ?_
  refine xw_aload_n dL_law_115 rfl rfl ?_
  refine xw_aload_n dL_law_116 rfl rfl ?_
  refine xw_iload dL_law_117 rfl ?_
  refine xw_iconst (v := 1) dL_law_119 (by decide) ?_
  refine xw_iadd dL_law_120 ?_
  refine xw_scr (t := 1) hS dL_law_121 rfl (by omega) hn e1 ?_
  refine xw_aload_n dL_law_122 rfl rfl ?_
  refine xw_iload dL_law_123 rfl ?_
  refine xw_iconst (v := 2) dL_law_125 (by decide) ?_
  refine xw_iadd dL_law_126 ?_
  refine xw_pc (pc2 := 127) rfl ?_
  refine xw_scr (t := 2) hS dL_law_127 rfl (by omega) hn e2 ?_
  refine xw_callV (q2 := mX10_node) (n2 := 2) (ci := 11) (Bs := [.int s1, .int s2]) (rest := []) (ct_mnodU hR hGS) dL_law_128 rfl (hR.at) rfl rfl tw_920 tw_921 tw_922 tw_47 tw_923 (by decide +kernel) rfl (Nat.le_of_ble_eq_true rfl) (Nat.le_of_ble_eq_true rfl) (Nat.le_of_ble_eq_true rfl) (fun rr M1 hr hle1 => ?_)
  obtain ⟨⟨v, rfl, hv2⟩, hR, hE⟩ := hr
  replace hg := sj_ef hE hF hg
  replace h := h.ef hE hF.1
  refine xw_istore (L2 := [(6, .int v), (5, .int (nodK σ s1)), (4, .int (nI i)), (3, .ref ao), (2, .ref m), (1, .ref (aT A)), (0, .ref sa)]) dL_law_131 (by decide) rfl ?_
  refine xw_aload_n dL_law_133 rfl rfl ?_
  refine xw_callV (q2 := mX10_thrown) (n2 := 0) (ci := 11) (Bs := []) (rest := []) (ct_mthrown hR) dL_law_134 rfl (hR.at) rfl rfl tw_916 tw_917 tw_918 tw_47 tw_919 (by decide +kernel) rfl (Nat.le_of_ble_eq_true rfl) (Nat.le_of_ble_eq_true rfl) (Nat.le_of_ble_eq_true rfl) (fun rr M1 hr hle1 => ?_)
  obtain ⟨rfl, hM1⟩ := hr
  obtain rfl := hM1.symm
  refine xw_iload dL_law_137 rfl ?_
  refine xw_icmp_eq (tgt := 144) dL_law_139 (by decide) (fun _ => ?_) (fun zz => absurd rfl zz)
  refine xw_iload dL_law_144 rfl ?_
  refine xw_if_ne (tgt := 161) dL_law_146 (by decide) (fun z => ?_) (fun z => ?_)
  · skip
    refine xw_goto (tgt := 758) dL_law_161 (by decide) ?_
    refine xw_mem (L2 := [(4, .int (nI i)), (3, .ref ao), (2, .ref m), (1, .ref (aT A)), (0, .ref sa)]) (by simp) ?_
    exact fin _ _ Γ1 γ1 _ _ _ g1 (h.mono (by rw [sAl_nodS]; omega)) hR hN.nodS (hK.nodS hGS) hg
  · skip
    refine xw_aload_n dL_law_149 rfl rfl ?_
    refine xw_iconst (v := 0) dL_law_150 (by decide) ?_
    refine xw_lald dL_law_151 hg in01 ?_
    rw [cl0]
    refine xw_iload dL_law_152 rfl ?_
    refine xw_i2l dL_law_154 ?_
    refine xw_lcmp dL_law_155 ?_
    refine xw_if_eq (tgt := 161) dL_law_156 (by decide) (fun _ => ?_) (fun zz => absurd (by rw [hv z, hv2 z]; exact cmp_self _) zz)
    refine xw_goto (tgt := 758) dL_law_161 (by decide) ?_
    refine xw_mem (L2 := [(4, .int (nI i)), (3, .ref ao), (2, .ref m), (1, .ref (aT A)), (0, .ref sa)]) (by simp) ?_
    exact fin _ _ Γ1 γ1 _ _ _ g1 (h.mono (by rw [sAl_nodS]; omega)) hR hN.nodS (hK.nodS hGS) hg
theorem law_run (hX : GX G) (hS : GSc G sa n f) (hn : n ≤ 2560) (hi : i + 5 ≤ n) (hL : LB M A Γ σ γ B m ao b th K V g) (fin : LF G M0 P A B m ao sa i b) : XW G 14 338 mL_law [.ref sa] M0 P M 306 [(4, .int (nI i)), (3, .ref ao), (2, .ref m), (1, .ref (aT A)), (0, .ref sa)] [] := by
  obtain ⟨h, hR, hN, hK, hg, hF, hb⟩ := hL
  have hGS := h.2.2
  have h5 := h.2.2.2.2.2.2.2.2.2.2.1.2.2.2.1
  obtain ⟨s1, e1⟩ : ∃ s1, s1 = f (i + 1) := ⟨_, rfl⟩
  obtain ⟨s2, e2⟩ : ∃ s2, s2 = f (i + 2) := ⟨_, rfl⟩
  obtain ⟨s3, e3⟩ : ∃ s3, s3 = f (i + 3) := ⟨_, rfl⟩
  obtain ⟨s4, e4⟩ : ∃ s4, s4 = f (i + 4) := ⟨_, rfl⟩
  refine xw_aload_n dL_law_306 rfl rfl ?_
  refine xw_aload_n dL_law_307 rfl rfl ?_
  refine xw_iload dL_law_308 rfl ?_
  refine xw_iconst (v := 1) dL_law_310 (by decide) ?_
  refine xw_iadd dL_law_311 ?_
  refine xw_pc (pc2 := 312) rfl ?_
  refine xw_scr (t := 1) hS dL_law_312 rfl (by omega) hn e1 ?_
  refine xw_aload_n dL_law_313 rfl rfl ?_
  refine xw_iload dL_law_314 rfl ?_
  refine xw_iconst (v := 2) dL_law_316 (by decide) ?_
  refine xw_iadd dL_law_317 ?_
  refine xw_scr (t := 2) hS dL_law_318 rfl (by omega) hn e2 ?_
  refine xw_i2l dL_law_319 ?_
  refine xw_bipush (v := 32) dL_law_320 (by decide) ?_
  refine xw_lshl dL_law_322 ?_
  refine xw_aload_n dL_law_323 rfl rfl ?_
  refine xw_iload dL_law_324 rfl ?_
  refine xw_iconst (v := 3) dL_law_326 (by decide) ?_
  refine xw_iadd dL_law_327 ?_
  refine xw_scr (t := 3) hS dL_law_328 rfl (by omega) hn e3 ?_
  refine xw_i2l dL_law_329 ?_
  refine xw_ldc2 (v := 4294967295) tw_1052 dL_law_330 ?_
  refine xw_land dL_law_333 ?_
  refine xw_lor dL_law_334 ?_
  refine xw_aload_n dL_law_335 rfl rfl ?_
  refine xw_pc (pc2 := 336) rfl ?_
  refine xw_callW (q2 := mL_run) (hh := hL_run) (n2 := 4) (Bs := [.ref (aT A), .int s1, .long ((s2.toInt64 <<< ((32 : Int32).toInt64 &&& 63)) ||| (s3.toInt64 &&& 4294967295)), .ref ao]) (rest := []) (ctw_run hX h (by omega) hR hg hF) dL_law_336 rfl tw_606 tw_607 tw_38 tw_608 (by decide +kernel) rfl (Nat.le_of_ble_eq_true rfl) (Nat.le_of_ble_eq_true rfl) (Nat.le_of_ble_eq_true rfl) (fun rr M1 hr hle1 => ?_)
  obtain ⟨rfl, ⟨Γ1, γ1, h⟩, hR, g1, hg, hv⟩ := hr
  refine xw_istore (L2 := [(5, .int (runK σ s1)), (4, .int (nI i)), (3, .ref ao), (2, .ref m), (1, .ref (aT A)), (0, .ref sa)]) dL_law_339 (by decide) rfl ?_
  refine xw_aload_n dL_law_341 rfl rfl ?_
  refine xw_aload_n dL_law_342 rfl rfl ?_
  refine xw_iload dL_law_343 rfl ?_
  refine xw_iconst (v := 1) dL_law_345 (by decide) ?_
  refine xw_iadd dL_law_346 ?_
  refine xw_scr (t := 1) hS dL_law_347 rfl (by omega) hn e1 ?_
  refine xw_aload_n dL_law_348 rfl rfl ?_
  refine xw_iload dL_law_349 rfl ?_
  refine xw_iconst (v := 2) dL_law_351 (by decide) ?_
  refine xw_iadd dL_law_352 ?_
  refine xw_scr (t := 2) hS dL_law_353 rfl (by omega) hn e2 ?_
  refine xw_i2l dL_law_354 ?_
  refine xw_bipush (v := 32) dL_law_355 (by decide) ?_
  refine xw_lshl dL_law_357 ?_
  refine xw_aload_n dL_law_358 rfl rfl ?_
  refine xw_iload dL_law_359 rfl ?_
  refine xw_iconst (v := 3) dL_law_361 (by decide) ?_
  refine xw_iadd dL_law_362 ?_
  refine xw_pc (pc2 := 363) rfl ?_
  refine xw_scr (t := 3) hS dL_law_363 rfl (by omega) hn e3 ?_
  refine xw_i2l dL_law_364 ?_
  refine xw_ldc2 (v := 4294967295) tw_1052 dL_law_365 ?_
  refine xw_land dL_law_368 ?_
  refine xw_lor dL_law_369 ?_
  refine xw_callV (q2 := mX10_run) (n2 := 2) (ci := 11) (Bs := [.int s1, .long ((s2.toInt64 <<< ((32 : Int32).toInt64 &&& 63)) ||| (s3.toInt64 &&& 4294967295))]) (rest := []) (ct_mrunU hR hGS hN hK) dL_law_370 rfl (hR.at) rfl rfl tw_955 tw_956 tw_957 tw_47 tw_958 (by decide +kernel) rfl (Nat.le_of_ble_eq_true rfl) (Nat.le_of_ble_eq_true rfl) (Nat.le_of_ble_eq_true rfl) (fun rr M1 hr hle1 => ?_)
  obtain ⟨⟨v, rfl, hv2⟩, ⟨K1, V1, hR⟩, hN, hK, hE⟩ := hr
  replace hg := sj_ef hE hF hg
  replace h := h.ef hE hF.1
  refine xw_istore (L2 := [(6, .int v), (5, .int (runK σ s1)), (4, .int (nI i)), (3, .ref ao), (2, .ref m), (1, .ref (aT A)), (0, .ref sa)]) dL_law_373 (by decide) rfl ?_
  refine xw_aload_n dL_law_375 rfl rfl ?_
  refine xw_callV (q2 := mX10_thrown) (n2 := 0) (ci := 11) (Bs := []) (rest := []) (ct_mthrown hR) dL_law_376 rfl (hR.at) rfl rfl tw_916 tw_917 tw_918 tw_47 tw_919 (by decide +kernel) rfl (Nat.le_of_ble_eq_true rfl) (Nat.le_of_ble_eq_true rfl) (Nat.le_of_ble_eq_true rfl) (fun rr M1 hr hle1 => ?_)
  obtain ⟨rfl, hM1⟩ := hr
  obtain rfl := hM1.symm
  refine xw_iload dL_law_379 rfl ?_
  refine xw_icmp_eq (tgt := 386) dL_law_381 (by decide) (fun _ => ?_) (fun zz => absurd rfl zz)
  refine xw_iload dL_law_386 rfl ?_
  refine xw_if_ne (tgt := 403) dL_law_388 (by decide) (fun z => ?_) (fun z => ?_)
  · skip
    refine xw_goto (tgt := 758) dL_law_403 (by decide) ?_
    refine xw_mem (L2 := [(4, .int (nI i)), (3, .ref ao), (2, .ref m), (1, .ref (aT A)), (0, .ref sa)]) (by simp) ?_
    exact fin _ _ Γ1 γ1 _ _ _ g1 (h.mono (by omega)) hR hN hK hg
  · skip
    refine xw_aload_n dL_law_391 rfl rfl ?_
    refine xw_iconst (v := 0) dL_law_392 (by decide) ?_
    refine xw_lald dL_law_393 hg in01 ?_
    rw [cl0]
    refine xw_iload dL_law_394 rfl ?_
    refine xw_i2l dL_law_396 ?_
    refine xw_lcmp dL_law_397 ?_
    refine xw_pc (pc2 := 398) rfl ?_
    refine xw_if_eq (tgt := 403) dL_law_398 (by decide) (fun _ => ?_) (fun zz => absurd (by rw [hv z, hv2 z]; exact cmp_self _) zz)
    refine xw_goto (tgt := 758) dL_law_403 (by decide) ?_
    refine xw_mem (L2 := [(4, .int (nI i)), (3, .ref ao), (2, .ref m), (1, .ref (aT A)), (0, .ref sa)]) (by simp) ?_
    exact fin _ _ Γ1 γ1 _ _ _ g1 (h.mono (by omega)) hR hN hK hg
theorem law_result (hX : GX G) (hS : GSc G sa n f) (hn : n ≤ 2560) (hi : i + 5 ≤ n) (hL : LB M A Γ σ γ B m ao b th K V g) (fin : LF G M0 P A B m ao sa i b) : XW G 14 338 mL_law [.ref sa] M0 P M 482 [(4, .int (nI i)), (3, .ref ao), (2, .ref m), (1, .ref (aT A)), (0, .ref sa)] [] := by
  obtain ⟨h, hR, hN, hK, hg, hF, hb⟩ := hL
  have hGS := h.2.2
  have h5 := h.2.2.2.2.2.2.2.2.2.2.1.2.2.2.1
  obtain ⟨s1, e1⟩ : ∃ s1, s1 = f (i + 1) := ⟨_, rfl⟩
  obtain ⟨s2, e2⟩ : ∃ s2, s2 = f (i + 2) := ⟨_, rfl⟩
  obtain ⟨s3, e3⟩ : ∃ s3, s3 = f (i + 3) := ⟨_, rfl⟩
  obtain ⟨s4, e4⟩ : ∃ s4, s4 = f (i + 4) := ⟨_, rfl⟩
  refine xw_aload_n dL_law_482 rfl rfl ?_
  refine xw_aload_n dL_law_483 rfl rfl ?_
  refine xw_iload dL_law_484 rfl ?_
  refine xw_iconst (v := 1) dL_law_486 (by decide) ?_
  refine xw_iadd dL_law_487 ?_
  refine xw_scr (t := 1) hS dL_law_488 rfl (by omega) hn e1 ?_
  refine xw_aload_n dL_law_489 rfl rfl ?_
  refine xw_iload dL_law_490 rfl ?_
  refine xw_iconst (v := 2) dL_law_492 (by decide) ?_
  refine xw_iadd dL_law_493 ?_
  refine xw_scr (t := 2) hS dL_law_494 rfl (by omega) hn e2 ?_
  refine xw_aload_n dL_law_495 rfl rfl ?_
  refine xw_callW (q2 := mL_result) (hh := hL_result) (n2 := 4) (Bs := [.ref (aT A), .int s1, .int s2, .ref ao]) (rest := []) (ctw_result hX h (by omega) hR hg hF) dL_law_496 rfl tw_745 tw_746 tw_38 tw_747 (by decide +kernel) rfl (Nat.le_of_ble_eq_true rfl) (Nat.le_of_ble_eq_true rfl) (Nat.le_of_ble_eq_true rfl) (fun rr M1 hr hle1 => ?_)
  obtain ⟨rfl, ⟨γ1, h⟩, hR, g1, hg, hv⟩ := hr
  refine xw_istore (L2 := [(5, .int (askK (sRs σ).length s1 s2)), (4, .int (nI i)), (3, .ref ao), (2, .ref m), (1, .ref (aT A)), (0, .ref sa)]) dL_law_499 (by decide) rfl ?_
  refine xw_aload_n dL_law_501 rfl rfl ?_
  refine xw_aload_n dL_law_502 rfl rfl ?_
  refine xw_iload dL_law_503 rfl ?_
  refine xw_iconst (v := 1) dL_law_505 (by decide) ?_
  refine xw_iadd dL_law_506 ?_
  refine xw_pc (pc2 := 507) rfl ?_
  refine xw_scr (t := 1) hS dL_law_507 rfl (by omega) hn e1 ?_
  refine xw_aload_n dL_law_508 rfl rfl ?_
  refine xw_iload dL_law_509 rfl ?_
  refine xw_iconst (v := 2) dL_law_511 (by decide) ?_
  refine xw_iadd dL_law_512 ?_
  refine xw_scr (t := 2) hS dL_law_513 rfl (by omega) hn e2 ?_
  refine xw_callV (q2 := mX10_result) (n2 := 2) (ci := 11) (Bs := [.int s1, .int s2]) (rest := []) (ct_mresU hR hGS) dL_law_514 rfl (hR.at) rfl rfl tw_1032 tw_1033 tw_1034 tw_47 tw_1035 (by decide +kernel) rfl (Nat.le_of_ble_eq_true rfl) (Nat.le_of_ble_eq_true rfl) (Nat.le_of_ble_eq_true rfl) (fun rr M1 hr hle1 => ?_)
  obtain ⟨⟨v, rfl, hv2⟩, hR, hE⟩ := hr
  replace hg := sj_ef hE hF hg
  replace h := h.ef hE hF.1
  refine xw_lstore (L2 := [(6, .long v), (5, .int (askK (sRs σ).length s1 s2)), (4, .int (nI i)), (3, .ref ao), (2, .ref m), (1, .ref (aT A)), (0, .ref sa)]) dL_law_517 (by decide) rfl ?_
  refine xw_aload_n dL_law_519 rfl rfl ?_
  refine xw_callV (q2 := mX10_thrown) (n2 := 0) (ci := 11) (Bs := []) (rest := []) (ct_mthrown hR) dL_law_520 rfl (hR.at) rfl rfl tw_916 tw_917 tw_918 tw_47 tw_919 (by decide +kernel) rfl (Nat.le_of_ble_eq_true rfl) (Nat.le_of_ble_eq_true rfl) (Nat.le_of_ble_eq_true rfl) (fun rr M1 hr hle1 => ?_)
  obtain ⟨rfl, hM1⟩ := hr
  obtain rfl := hM1.symm
  refine xw_iload dL_law_523 rfl ?_
  refine xw_icmp_eq (tgt := 530) dL_law_525 (by decide) (fun _ => ?_) (fun zz => absurd rfl zz)
  refine xw_iload dL_law_530 rfl ?_
  refine xw_if_ne (tgt := 546) dL_law_532 (by decide) (fun z => ?_) (fun z => ?_)
  · skip
    refine xw_goto (tgt := 758) dL_law_546 (by decide) ?_
    refine xw_mem (L2 := [(4, .int (nI i)), (3, .ref ao), (2, .ref m), (1, .ref (aT A)), (0, .ref sa)]) (by simp) ?_
    exact fin _ _ Γ γ1 _ _ _ g1 (h.mono (by omega)) hR hN hK hg
  · skip
    refine xw_aload_n dL_law_535 rfl rfl ?_
    refine xw_iconst (v := 0) dL_law_536 (by decide) ?_
    refine xw_lald dL_law_537 hg in01 ?_
    rw [cl0]
    refine xw_lload dL_law_538 rfl ?_
    refine xw_lcmp dL_law_540 ?_
    refine xw_pc (pc2 := 541) rfl ?_
    refine xw_if_eq (tgt := 546) dL_law_541 (by decide) (fun _ => ?_) (fun zz => absurd (by rw [hv z, hv2 z]; exact cmp_self _) zz)
    refine xw_goto (tgt := 758) dL_law_546 (by decide) ?_
    refine xw_mem (L2 := [(4, .int (nI i)), (3, .ref ao), (2, .ref m), (1, .ref (aT A)), (0, .ref sa)]) (by simp) ?_
    exact fin _ _ Γ γ1 _ _ _ g1 (h.mono (by omega)) hR hN hK hg
theorem law_context (hX : GX G) (hS : GSc G sa n f) (hn : n ≤ 2560) (hi : i + 5 ≤ n) (hL : LB M A Γ σ γ B m ao b th K V g) (fin : LF G M0 P A B m ao sa i b) : XW G 14 338 mL_law [.ref sa] M0 P M 549 [(4, .int (nI i)), (3, .ref ao), (2, .ref m), (1, .ref (aT A)), (0, .ref sa)] [] := by
  obtain ⟨h, hR, hN, hK, hg, hF, hb⟩ := hL
  have hGS := h.2.2
  have h5 := h.2.2.2.2.2.2.2.2.2.2.1.2.2.2.1
  obtain ⟨s1, e1⟩ : ∃ s1, s1 = f (i + 1) := ⟨_, rfl⟩
  obtain ⟨s2, e2⟩ : ∃ s2, s2 = f (i + 2) := ⟨_, rfl⟩
  obtain ⟨s3, e3⟩ : ∃ s3, s3 = f (i + 3) := ⟨_, rfl⟩
  obtain ⟨s4, e4⟩ : ∃ s4, s4 = f (i + 4) := ⟨_, rfl⟩
  refine xw_aload_n dL_law_549 rfl rfl ?_
  refine xw_aload_n dL_law_550 rfl rfl ?_
  refine xw_iload dL_law_551 rfl ?_
  refine xw_iconst (v := 1) dL_law_553 (by decide) ?_
  refine xw_iadd dL_law_554 ?_
  refine xw_scr (t := 1) hS dL_law_555 rfl (by omega) hn e1 ?_
  refine xw_aload_n dL_law_556 rfl rfl ?_
  refine xw_iload dL_law_557 rfl ?_
  refine xw_iconst (v := 2) dL_law_559 (by decide) ?_
  refine xw_iadd dL_law_560 ?_
  refine xw_scr (t := 2) hS dL_law_561 rfl (by omega) hn e2 ?_
  refine xw_aload_n dL_law_562 rfl rfl ?_
  refine xw_callW (q2 := mL_context) (hh := hL_context) (n2 := 4) (Bs := [.ref (aT A), .int s1, .int s2, .ref ao]) (rest := []) (ctw_context hX h (by omega) hR hg hF) dL_law_563 rfl tw_769 tw_770 tw_38 tw_771 (by decide +kernel) rfl (Nat.le_of_ble_eq_true rfl) (Nat.le_of_ble_eq_true rfl) (Nat.le_of_ble_eq_true rfl) (fun rr M1 hr hle1 => ?_)
  obtain ⟨rfl, ⟨γ1, h⟩, hR, g1, hg, hv⟩ := hr
  refine xw_istore (L2 := [(5, .int (askK (sC σ).length s1 s2)), (4, .int (nI i)), (3, .ref ao), (2, .ref m), (1, .ref (aT A)), (0, .ref sa)]) dL_law_566 (by decide) rfl ?_
  refine xw_aload_n dL_law_568 rfl rfl ?_
  refine xw_aload_n dL_law_569 rfl rfl ?_
  refine xw_iload dL_law_570 rfl ?_
  refine xw_iconst (v := 1) dL_law_572 (by decide) ?_
  refine xw_iadd dL_law_573 ?_
  refine xw_pc (pc2 := 574) rfl ?_
  refine xw_scr (t := 1) hS dL_law_574 rfl (by omega) hn e1 ?_
  refine xw_aload_n dL_law_575 rfl rfl ?_
  refine xw_iload dL_law_576 rfl ?_
  refine xw_iconst (v := 2) dL_law_578 (by decide) ?_
  refine xw_iadd dL_law_579 ?_
  refine xw_scr (t := 2) hS dL_law_580 rfl (by omega) hn e2 ?_
  refine xw_callV (q2 := mX10_context) (n2 := 2) (ci := 11) (Bs := [.int s1, .int s2]) (rest := []) (ct_mctxU hR hGS) dL_law_581 rfl (hR.at) rfl rfl tw_1036 tw_1037 tw_1038 tw_47 tw_1039 (by decide +kernel) rfl (Nat.le_of_ble_eq_true rfl) (Nat.le_of_ble_eq_true rfl) (Nat.le_of_ble_eq_true rfl) (fun rr M1 hr hle1 => ?_)
  obtain ⟨⟨v, rfl, hv2⟩, hR, hE⟩ := hr
  replace hg := sj_ef hE hF hg
  replace h := h.ef hE hF.1
  refine xw_istore (L2 := [(6, .int v), (5, .int (askK (sC σ).length s1 s2)), (4, .int (nI i)), (3, .ref ao), (2, .ref m), (1, .ref (aT A)), (0, .ref sa)]) dL_law_584 (by decide) rfl ?_
  refine xw_aload_n dL_law_586 rfl rfl ?_
  refine xw_callV (q2 := mX10_thrown) (n2 := 0) (ci := 11) (Bs := []) (rest := []) (ct_mthrown hR) dL_law_587 rfl (hR.at) rfl rfl tw_916 tw_917 tw_918 tw_47 tw_919 (by decide +kernel) rfl (Nat.le_of_ble_eq_true rfl) (Nat.le_of_ble_eq_true rfl) (Nat.le_of_ble_eq_true rfl) (fun rr M1 hr hle1 => ?_)
  obtain ⟨rfl, hM1⟩ := hr
  obtain rfl := hM1.symm
  refine xw_iload dL_law_590 rfl ?_
  refine xw_icmp_eq (tgt := 597) dL_law_592 (by decide) (fun _ => ?_) (fun zz => absurd rfl zz)
  refine xw_iload dL_law_597 rfl ?_
  refine xw_if_ne (tgt := 614) dL_law_599 (by decide) (fun z => ?_) (fun z => ?_)
  · skip
    refine xw_goto (tgt := 758) dL_law_614 (by decide) ?_
    refine xw_mem (L2 := [(4, .int (nI i)), (3, .ref ao), (2, .ref m), (1, .ref (aT A)), (0, .ref sa)]) (by simp) ?_
    exact fin _ _ Γ γ1 _ _ _ g1 (h.mono (by omega)) hR hN hK hg
  · skip
    refine xw_aload_n dL_law_602 rfl rfl ?_
    refine xw_iconst (v := 0) dL_law_603 (by decide) ?_
    refine xw_lald dL_law_604 hg in01 ?_
    rw [cl0]
    refine xw_iload dL_law_605 rfl ?_
    refine xw_i2l dL_law_607 ?_
    refine xw_lcmp dL_law_608 ?_
    refine xw_pc (pc2 := 609) rfl ?_
    refine xw_if_eq (tgt := 614) dL_law_609 (by decide) (fun _ => ?_) (fun zz => absurd (by rw [hv z, hv2 z]; exact cmp_self _) zz)
    refine xw_goto (tgt := 758) dL_law_614 (by decide) ?_
    refine xw_mem (L2 := [(4, .int (nI i)), (3, .ref ao), (2, .ref m), (1, .ref (aT A)), (0, .ref sa)]) (by simp) ?_
    exact fin _ _ Γ γ1 _ _ _ g1 (h.mono (by omega)) hR hN hK hg
theorem law_cell (hX : GX G) (hS : GSc G sa n f) (hn : n ≤ 2560) (hi : i + 5 ≤ n) (hL : LB M A Γ σ γ B m ao b th K V g) (fin : LF G M0 P A B m ao sa i b) : XW G 14 338 mL_law [.ref sa] M0 P M 617 [(4, .int (nI i)), (3, .ref ao), (2, .ref m), (1, .ref (aT A)), (0, .ref sa)] [] := by
  obtain ⟨h, hR, hN, hK, hg, hF, hb⟩ := hL
  have hGS := h.2.2
  have h5 := h.2.2.2.2.2.2.2.2.2.2.1.2.2.2.1
  obtain ⟨s1, e1⟩ : ∃ s1, s1 = f (i + 1) := ⟨_, rfl⟩
  obtain ⟨s2, e2⟩ : ∃ s2, s2 = f (i + 2) := ⟨_, rfl⟩
  obtain ⟨s3, e3⟩ : ∃ s3, s3 = f (i + 3) := ⟨_, rfl⟩
  obtain ⟨s4, e4⟩ : ∃ s4, s4 = f (i + 4) := ⟨_, rfl⟩
  refine xw_aload_n dL_law_617 rfl rfl ?_
  refine xw_aload_n dL_law_618 rfl rfl ?_
  refine xw_iload dL_law_619 rfl ?_
  refine xw_iconst (v := 1) dL_law_621 (by decide) ?_
  refine xw_iadd dL_law_622 ?_
  refine xw_scr (t := 1) hS dL_law_623 rfl (by omega) hn e1 ?_
  refine xw_aload_n dL_law_624 rfl rfl ?_
  refine xw_iload dL_law_625 rfl ?_
  refine xw_iconst (v := 2) dL_law_627 (by decide) ?_
  refine xw_iadd dL_law_628 ?_
  refine xw_scr (t := 2) hS dL_law_629 rfl (by omega) hn e2 ?_
  refine xw_aload_n dL_law_630 rfl rfl ?_
  refine xw_iload dL_law_631 rfl ?_
  refine xw_iconst (v := 3) dL_law_633 (by decide) ?_
  refine xw_iadd dL_law_634 ?_
  refine xw_pc (pc2 := 635) rfl ?_
  refine xw_scr (t := 3) hS dL_law_635 rfl (by omega) hn e3 ?_
  refine xw_aload_n dL_law_636 rfl rfl ?_
  refine xw_callW (q2 := mL_cell) (hh := hL_cell) (n2 := 5) (Bs := [.ref (aT A), .int s1, .int s2, .int s3, .ref ao]) (rest := []) (ctw_cell hX h (by omega) hR hg hF) dL_law_637 rfl tw_777 tw_778 tw_38 tw_779 (by decide +kernel) rfl (Nat.le_of_ble_eq_true rfl) (Nat.le_of_ble_eq_true rfl) (Nat.le_of_ble_eq_true rfl) (fun rr M1 hr hle1 => ?_)
  obtain ⟨rfl, ⟨γ1, h⟩, hR, g1, hg, hv⟩ := hr
  refine xw_istore (L2 := [(5, .int (celK σ s1 s2 s3)), (4, .int (nI i)), (3, .ref ao), (2, .ref m), (1, .ref (aT A)), (0, .ref sa)]) dL_law_640 (by decide) rfl ?_
  refine xw_aload_n dL_law_642 rfl rfl ?_
  refine xw_aload_n dL_law_643 rfl rfl ?_
  refine xw_iload dL_law_644 rfl ?_
  refine xw_iconst (v := 1) dL_law_646 (by decide) ?_
  refine xw_iadd dL_law_647 ?_
  refine xw_scr (t := 1) hS dL_law_648 rfl (by omega) hn e1 ?_
  refine xw_aload_n dL_law_649 rfl rfl ?_
  refine xw_iload dL_law_650 rfl ?_
  refine xw_iconst (v := 2) dL_law_652 (by decide) ?_
  refine xw_iadd dL_law_653 ?_
  refine xw_scr (t := 2) hS dL_law_654 rfl (by omega) hn e2 ?_
  refine xw_aload_n dL_law_655 rfl rfl ?_
  refine xw_iload dL_law_656 rfl ?_
  refine xw_iconst (v := 3) dL_law_658 (by decide) ?_
  refine xw_iadd dL_law_659 ?_
  refine xw_pc (pc2 := 660) rfl ?_
  refine xw_scr (t := 3) hS dL_law_660 rfl (by omega) hn e3 ?_
  refine xw_callV (q2 := mX10_cell) (n2 := 3) (ci := 11) (Bs := [.int s1, .int s2, .int s3]) (rest := []) (ct_mcelU hR hGS) dL_law_661 rfl (hR.at) rfl rfl tw_1040 tw_1041 tw_1042 tw_47 tw_1043 (by decide +kernel) rfl (Nat.le_of_ble_eq_true rfl) (Nat.le_of_ble_eq_true rfl) (Nat.le_of_ble_eq_true rfl) (fun rr M1 hr hle1 => ?_)
  obtain ⟨⟨v, rfl, hv2⟩, hR, hE⟩ := hr
  replace hg := sj_ef hE hF hg
  replace h := h.ef hE hF.1
  refine xw_lstore (L2 := [(6, .long v), (5, .int (celK σ s1 s2 s3)), (4, .int (nI i)), (3, .ref ao), (2, .ref m), (1, .ref (aT A)), (0, .ref sa)]) dL_law_664 (by decide) rfl ?_
  refine xw_aload_n dL_law_666 rfl rfl ?_
  refine xw_callV (q2 := mX10_thrown) (n2 := 0) (ci := 11) (Bs := []) (rest := []) (ct_mthrown hR) dL_law_667 rfl (hR.at) rfl rfl tw_916 tw_917 tw_918 tw_47 tw_919 (by decide +kernel) rfl (Nat.le_of_ble_eq_true rfl) (Nat.le_of_ble_eq_true rfl) (Nat.le_of_ble_eq_true rfl) (fun rr M1 hr hle1 => ?_)
  obtain ⟨rfl, hM1⟩ := hr
  obtain rfl := hM1.symm
  refine xw_iload dL_law_670 rfl ?_
  refine xw_icmp_eq (tgt := 677) dL_law_672 (by decide) (fun _ => ?_) (fun zz => absurd rfl zz)
  refine xw_iload dL_law_677 rfl ?_
  refine xw_if_ne (tgt := 693) dL_law_679 (by decide) (fun z => ?_) (fun z => ?_)
  · skip
    refine xw_goto (tgt := 758) dL_law_693 (by decide) ?_
    refine xw_mem (L2 := [(4, .int (nI i)), (3, .ref ao), (2, .ref m), (1, .ref (aT A)), (0, .ref sa)]) (by simp) ?_
    exact fin _ _ Γ γ1 _ _ _ g1 (h.mono (by omega)) hR hN hK hg
  · skip
    refine xw_aload_n dL_law_682 rfl rfl ?_
    refine xw_iconst (v := 0) dL_law_683 (by decide) ?_
    refine xw_lald dL_law_684 hg in01 ?_
    rw [cl0]
    refine xw_lload dL_law_685 rfl ?_
    refine xw_lcmp dL_law_687 ?_
    refine xw_if_eq (tgt := 693) dL_law_688 (by decide) (fun _ => ?_) (fun zz => absurd (by rw [hv z, hv2 z]; exact cmp_self _) zz)
    refine xw_goto (tgt := 758) dL_law_693 (by decide) ?_
    refine xw_mem (L2 := [(4, .int (nI i)), (3, .ref ao), (2, .ref m), (1, .ref (aT A)), (0, .ref sa)]) (by simp) ?_
    exact fin _ _ Γ γ1 _ _ _ g1 (h.mono (by omega)) hR hN hK hg
end LAW
