/-! THE CLASS: run -/
def pkk (p : Int64) (n : Nat) : Int32 := ((p.toUInt64 >>> ((1 : Int32).toInt64.toUInt64 &&& Int64.toUInt64 63)).toInt64 - (p.toUInt64 >>> ((1 : Int32).toInt64.toUInt64 &&& Int64.toUInt64 63)).toInt64 / (nI n).toInt64 * (nI n).toInt64).toInt32
def pick (p : Int64) (n : Nat) : Nat := (pkk p n).toNatClampNeg
/-- the k-th ready one is taken out, counted -/
def upW (σ : hs_S) (k : Nat) : hs_S := uR (uAl (uW σ (sW σ + 1)) (sAl σ + 1)) ((sR σ).eraseIdx k)
def goAt (o : Option R3) (σ : hs_S) (k : Nat) : hs_S := match o with
  | none => σ
  | some x => acts (upW σ k) x.1 x.2.1 x.2.2
def runs : Nat → Int64 → Nat → hs_S → Nat × hs_S
  | 0, _, w, σ => (w, σ)
  | k + 1, p, w, σ => if sTr σ ≠ 0 ∨ 5000 ≤ sAl σ ∨ (sR σ).length = 0 then (w, σ) else runs k (p * 25214903917 + 11) (w + 1) (goAt (sR σ)[pick p (sR σ).length]? σ (pick p (sR σ).length))
theorem runs_s (k : Nat) (p : Int64) (w : Nat) (σ : hs_S) : runs (k + 1) p w σ = if sTr σ ≠ 0 ∨ 5000 ≤ sAl σ ∨ (sR σ).length = 0 then (w, σ) else runs k (p * 25214903917 + 11) (w + 1) (goAt (sR σ)[pick p (sR σ).length]? σ (pick p (sR σ).length)) := by rw [runs]
theorem goAt_some (x : R3) (σ : hs_S) (k : Nat) : goAt (some x) σ k = acts (upW σ k) x.1 x.2.1 x.2.2 := rfl
theorem ar6 (b s : Nat) : b + 2400 * s + 2400 ≤ b + 2400 * (s + 1) := by rw [Nat.mul_succ]; omega
theorem ar7 {b s : Nat} (hb : b + 12003100 ≤ 14400000) (hs : s ≤ 5000) : b + 2400 * s + 3100 ≤ 14400000 := by omega
theorem upW_6 (σ : hs_S) (k : Nat) : same6 (uR σ ((sR σ).eraseIdx k)) (upW σ k) := ⟨by unfold upW; rw [sN_uR, sN_uR, sN_uAl, sN_uW], by unfold upW; rw [sC_uR, sC_uR, sC_uAl, sC_uW], by unfold upW; rw [sA_uR, sA_uR, sA_uAl, sA_uW], by unfold upW; rw [sLe_uR, sLe_uR, sLe_uAl, sLe_uW], by unfold upW; rw [sCe_uR, sCe_uR, sCe_uAl, sCe_uW], by unfold upW; rw [sRs_uR, sRs_uR, sRs_uAl, sRs_uW]⟩
theorem upW_3 (σ : hs_S) (k : Nat) : sT (upW σ k) = sT (uR σ ((sR σ).eraseIdx k)) ∧ sR (upW σ k) = sR (uR σ ((sR σ).eraseIdx k)) ∧ sK (upW σ k) = sK (uR σ ((sR σ).eraseIdx k)) := ⟨by unfold upW; rw [sT_uR, sT_uR, sT_uAl, sT_uW], by unfold upW; rw [sR_uR, sR_uR], by unfold upW; rw [sK_uR, sK_uR, sK_uAl, sK_uW]⟩
section RUN
variable {G : hx_G} {M M1 : hx_S} {A : hA} {Γ : hG} {σ : hs_S} {γ : hf_S} {b i c d : Nat} {z : V2} {t : Nat → Option V2}
theorem lN_u (u : UInt64) : u.toInt64 = lN u.toNat := by
  apply Int64.toBitVec_inj.mp
  show u.toBitVec = (Int64.ofNat u.toNat).toBitVec
  rw [Int64.toBitVec_ofNat']
  simp
theorem lN_mod {a n : Nat} (ha : a < 2 ^ 63) (hn : n < 2 ^ 63) (h0 : 0 < n) : lN a - lN a / lN n * lN n = lN (a % n) := by
  have e1 : lN a / lN n = lN (a / n) := by
    apply Int64.toInt_inj.mp
    have q1 := pk_lT ha
    have q2 := pk_lT hn
    have q3 : a / n < 2 ^ 63 := Nat.lt_of_le_of_lt (Nat.div_le_self a n) ha
    rw [lg_ldiv_nonneg (by omega) (by omega), q1, q2, pk_lT q3]
    exact (Int.natCast_ediv a n).symm
  have e2 : lN a = lN (a % n) + lN (a / n) * lN n := by
    show Int64.ofNat a = Int64.ofNat (a % n) + Int64.ofNat (a / n) * Int64.ofNat n
    rw [← Int64.ofNat_mul, ← Int64.ofNat_add]
    congr 1
    have := Nat.div_add_mod a n
    rw [Nat.mul_comm] at this
    omega
  rw [e1]
  exact (congrArg (fun z => z - lN (a / n) * lN n) e2).trans (Int64.add_sub_cancel _ _)
theorem pick_ok (p : Int64) {n : Nat} (h0 : 0 < n) (hn : n < 2 ^ 31) : pick p n < n ∧ pkk p n = nI (pick p n) := by
  have h1 : ((1 : Int32).toInt64.toUInt64 &&& Int64.toUInt64 63) = 1 := by decide +kernel
  have hlt : (p.toUInt64 >>> 1).toNat < 2 ^ 63 := by
    rw [UInt64.toNat_shiftRight]
    have := p.toUInt64.toNat_lt
    show p.toUInt64.toNat >>> (1 % 64) < 2 ^ 63
    rw [Nat.shiftRight_eq_div_pow, show 2 ^ (1 % 64) = 2 from rfl]
    omega
  have e : pkk p n = nI ((p.toUInt64 >>> 1).toNat % n) := by
    unfold pkk
    rw [h1, lN_u, nI_l hn, lN_mod hlt (by omega) h0, lN_i]
  have hm := Nat.mod_lt (p.toUInt64 >>> 1).toNat h0
  have e2 : pick p n = (p.toUInt64 >>> 1).toNat % n := by unfold pick; rw [e, nI_clamp (by omega)]
  rw [e2]
  exact ⟨hm, e⟩
/-- what all that goes leaves alone -/
def kept4 (σ σ' : hs_S) : Prop := sN σ' = sN σ ∧ sW σ' = sW σ ∧ sAl σ' = sAl σ ∧ sB σ' = sB σ
theorem kept4.rf (σ : hs_S) : kept4 σ σ := ⟨rfl, rfl, rfl, rfl⟩
theorem kept4.tr {σ σ' σ2 : hs_S} (h : kept4 σ σ') (k : kept4 σ' σ2) : kept4 σ σ2 := ⟨k.1.trans h.1, k.2.1.trans h.2.1, k.2.2.1.trans h.2.2.1, k.2.2.2.trans h.2.2.2⟩
theorem same9.k4 {σ σ' : hs_S} (h : same9 σ σ') : kept4 σ σ' := ⟨h.1.1, h.2.2.1, h.2.2.2.1, h.2.2.2.2⟩
theorem give_k (σ : hs_S) (i c : Nat) (v : V2) : kept4 σ (give σ i c v) := (give_same σ i c v).k4
theorem giveS_k (σ : hs_S) (i s c : Nat) (v : V2) : kept4 σ (giveS σ i s c v) := (gives_same _ _ _ _ σ).k4
theorem serves_k (d : Nat) (v : V2) : ∀ (k : Nat) (σ : hs_S), kept4 σ (serves d v k σ)
  | 0, σ => kept4.rf σ
  | k + 1, σ => by
    unfold serves
    split
    · exact kept4.rf σ
    · refine kept4.tr ?_ (serves_k d v k _)
      unfold serveAt
      split
      · exact kept4.rf σ
      · exact (show kept4 σ (uK σ (kdrop d (sK σ))) from ⟨rfl, rfl, rfl, rfl⟩).tr (give_k _ _ _ _)
theorem uTr_k (σ : hs_S) (n : Nat) : kept4 σ (uTr σ n) := ⟨rfl, rfl, rfl, rfl⟩
theorem uC_k (σ : hs_S) (L : List T3) : kept4 σ (uC σ L) := ⟨rfl, rfl, rfl, rfl⟩
theorem choose_k (σ : hs_S) (i c : Nat) (x y : V2) : kept4 σ (choose σ i c x y) := by
  unfold choose
  split
  · exact giveS_k _ _ _ _ _
  · exact (giveS_k _ _ _ _ _).tr (giveS_k _ _ _ _ _)
theorem moveAt_k (o : Option Nat) (L : List T3) (σ : hs_S) (i : Nat) (x : V2) : kept4 σ (moveAt o L σ i x) := by
  cases o with
  | none => exact ⟨rfl, rfl, rfl, rfl⟩
  | some d => exact (uC_k σ L).tr (give_k _ _ _ _)
theorem callAt_k (o : Option Nat) (L : List T3) (σ : hs_S) (k : Nat) (x : V2) : kept4 σ (callAt o L σ k x) := by
  cases o with
  | none => exact ⟨rfl, rfl, rfl, rfl⟩
  | some d => exact (uC_k σ L).tr (come_same _ _ _ _ _).k4
theorem enterAt_k (o : Option Nat) (σ : hs_S) (i c : Nat) (x : V2) : kept4 σ (enterAt o σ i c x) := by
  cases o with
  | none => exact kept4.rf σ
  | some d => exact callAt_k _ _ _ _ _
theorem leaveAt_k (o : Option Nat) (σ : hs_S) (c : Nat) (x : V2) : kept4 σ (leaveAt o σ c x) := by
  cases o with
  | none => exact kept4.rf σ
  | some d => exact give_k _ _ _ _
theorem leave_k (σ : hs_S) (c : Nat) (x : V2) : kept4 σ (leave σ c x) := by
  unfold leave
  generalize ndx σ (-1 - (ct3 σ c).2.1) = o
  exact leaveAt_k o σ c x
theorem made_k (σ : hs_S) (i c : Nat) (x : V2) : kept4 σ (made σ i c x) := by
  unfold made
  split
  · exact give_k _ _ _ _
  · split
    · exact uTr_k _ _
    · exact (show kept4 σ (mkA σ _) from ⟨rfl, rfl, rfl, rfl⟩).tr (give_k _ _ _ _)
theorem fetched_k (o : Option Nat) (σ : hs_S) (i c : Nat) : kept4 σ (fetched o σ i c) := by
  cases o with
  | none => exact give_k _ _ _ _
  | some d =>
    show kept4 σ (fetchAt (sCe σ d) σ i c d)
    generalize sCe σ d = v
    cases v with
    | none => exact ⟨rfl, rfl, rfl, rfl⟩
    | some v => exact give_k _ _ _ _
theorem stored_k (o : Option Nat) (σ : hs_S) (i c : Nat) (z : V2) : kept4 σ (stored o σ i c z) := by
  cases o with
  | none => exact give_k _ _ _ _
  | some d =>
    show kept4 σ (if (sCe σ d).isSome = true then uTr σ 3 else serves d z (kf σ d).length (give (cset σ d z) i c z))
    split
    · exact uTr_k _ _
    · exact ((show kept4 σ (cset σ d z) from ⟨rfl, rfl, rfl, rfl⟩).tr (give_k _ _ _ _)).tr (serves_k _ _ _ _)
theorem actBy_k (o : Nat) (σ : hs_S) (i c : Nat) (x y z : V2) : kept4 σ (actBy o σ i c x y z) := by
  unfold actBy
  split
  · exact give_k _ _ _ _
  · split
    · exact choose_k _ _ _ _ _
    · split
      · exact moveAt_k _ _ _ _ _
      · split
        · exact enterAt_k _ _ _ _ _
        · split
          · exact leave_k _ _ _
          · split
            · exact made_k _ _ _ _
            · split
              · exact fetched_k _ _ _ _
              · split
                · exact stored_k _ _ _ _ _
                · exact ⟨rfl, rfl, rfl, rfl⟩
theorem acts_k (σ : hs_S) (i c : Nat) (t : Nat → Option V2) : kept4 σ (acts σ i c t) := by
  unfold acts
  split
  · exact give_k _ _ _ _
  · exact actBy_k _ _ _ _ _ _ _
theorem GS.up {k : Nat} (h : GS σ) (hal : sAl σ < 5000) : GS (upW σ k) := by
  obtain ⟨k1, k2, k3, k4, k5, k6, k7, k8, ⟨q1, q2, q3, q4, q5, q6⟩, k10⟩ := h
  refine ⟨k1, k2, k3, k4, k5, fun x hx => k6 x (List.mem_of_mem_eraseIdx hx), k7, k8, ⟨?_, q2, ?_, ?_, ?_, q6⟩, k10⟩
  · show sNt σ + ((sR σ).eraseIdx k).length + (sK σ).length ≤ 300
    have := List.length_eraseIdx_le (sR σ) k
    omega
  · show sW σ + 1 ≤ sAl σ + 1
    omega
  · show sAl σ + 1 ≤ 5000
    omega
  · show (sRs σ).length ≤ sW σ + 1
    omega
theorem ct_run (h : Rep M A Γ σ γ (b + 2400 * sAl σ)) (hb : b + 12003100 ≤ 14400000) {n : Nat} {p : Int64} (hn : 1 ≤ n ∧ n ≤ 500) (hal : sAl σ < 5000) : CT G 12 285 mX9_run [.ref (aT A), .int (nI n), .long p] M (fun r M1 => r = some (.int (nI (runs n p 0 σ).1)) ∧ ∃ γ1, Rep M1 A Γ (runs n p 0 σ).2 γ1 (b + 2400 * sAl (runs n p 0 σ).2) ∧ XE A M M1) := by
  have loop : ∀ (S : Nat × hs_S) (k w : Nat) (q : Int64) (M' : hx_S) (σ' : hs_S) (γ' : hf_S), w + k = n → Rep M' A Γ σ' γ' (b + 2400 * sAl σ') → runs k q w σ' = S → XE A M M' → XW G 12 285 mX9_run [.ref (aT A), .int (nI n), .long p] M (fun r M1 => r = some (.int (nI S.1)) ∧ ∃ γ1, Rep M1 A Γ S.2 γ1 (b + 2400 * sAl S.2) ∧ XE A M M1) M' 48 [(6, .int (nI w)), (4, .long q), (0, .ref (aT A)), (1, .int (nI n)), (2, .long p)] [] := by
    intro S k
    induction k with
    | zero =>
      intro w q M' σ' γ' hwk hR hS hX
      refine xw_iload dX9_run_48 rfl ?_
      refine xw_iload_n dX9_run_50 rfl rfl ?_
      refine xw_icmp_ge (tgt := 153) dX9_run_51 (by decide) (fun _ => ?_) (fun zz => absurd (nI_le (show n ≤ w by omega) (by omega)) zz)
      refine xw_iload dX9_run_153 rfl ?_
      rw [← hS]
      exact xw_iret rfl dX9_run_155 ⟨rfl, γ', hR, hX⟩
    | succ k ih =>
      intro w q M' σ' γ' hwk hR hS hX
      have hH := hR.hdr
      obtain ⟨q1, q2, q3, q4, q5, q6⟩ := hR.2.2.2.2.2.2.2.2.2.2.1
      have hb' : b + 2400 * sAl σ' + 3100 ≤ 14400000 := ar7 hb q4
      have hlen : (gG γ' (3, 0)).length = (sR σ').length := by
        have q := congrArg List.length hR.2.1.2.2.1.2.2.2.2.1
        rw [List.length_map, List.length_map] at q
        omega
      obtain ⟨⟨y, hy⟩, hro⟩ := hR.2.1.2.1.2.1 (3, 0) act_3
      rw [ad_3] at hy hro
      have hcap := hR.2.1.2.2.2.2.2.2.cap (by omega) hy
      simp only at hcap
      have stop : sTr σ' ≠ 0 ∨ 5000 ≤ sAl σ' ∨ (sR σ').length = 0 → S = (w, σ') := fun z => by rw [← hS, runs_s, if_pos z]
      refine xw_iload dX9_run_48 rfl ?_
      refine xw_iload_n dX9_run_50 rfl rfl ?_
      refine xw_icmp_ge (tgt := 153) dX9_run_51 (by decide) (fun zz => absurd zz (nI_ge (show w < n by omega) (by omega))) (fun _ => ?_)
      refine xw_aload_n dX9_run_54 rfl rfl ?_
      refine xw_get (ci := 10) (k := 9) (v := .int (nI (sTr σ'))) dX9_run_55 hH rfl inX9 (by decide) tw_189 (Or.inl rfl) rfl ?_
      refine xw_if_ne (tgt := 153) dX9_run_58 (by decide) (fun d1 => ?_) (fun d1 => ?_)
      · have t0 : sTr σ' ≠ 0 := fun zz => d1 (by rw [zz]; rfl)
        refine xw_iload dX9_run_153 rfl ?_
        rw [stop (Or.inl t0)]
        exact xw_iret rfl dX9_run_155 ⟨rfl, γ', hR, hX⟩
      · have t0 : sTr σ' = 0 := (nI_eq (by omega) (by decide)).mp (show nI (sTr σ') = nI 0 from d1)
        refine xw_aload_n dX9_run_61 rfl rfl ?_
        refine xw_get (ci := 10) (k := 11) (v := .int (nI (sAl σ'))) dX9_run_62 hH rfl inX9 (by decide) tw_191 (Or.inl rfl) rfl ?_
        refine xw_sipush (v := 5000) dX9_run_65 (by decide) ?_
        refine xw_icmp_ge (tgt := 153) dX9_run_68 (by decide) (fun d2 => ?_) (fun d2 => ?_)
        · have t1 : 5000 ≤ sAl σ' := Nat.le_of_not_lt (fun zz => absurd d2 (show ¬ nI 5000 ≤ nI (sAl σ') from nI_ge zz (by decide)))
          refine xw_iload dX9_run_153 rfl ?_
          rw [stop (Or.inr (Or.inl t1))]
          exact xw_iret rfl dX9_run_155 ⟨rfl, γ', hR, hX⟩
        · have t1 : sAl σ' < 5000 := Nat.lt_of_not_le (fun zz => d2 (show nI 5000 ≤ nI (sAl σ') from nI_le zz (by omega)))
          refine xw_aload_n dX9_run_71 rfl rfl ?_
          refine xw_get (ci := 10) (k := 3) (v := .ref (aR A)) dX9_run_72 hH rfl inX9 (by decide) tw_183 (Or.inl rfl) rfl ?_
          refine xw_pc (pc2 := 75) rfl ?_
          refine xw_callV (q2 := mJx4a65c_size_8abf5) (n2 := 0) (ci := 0) (Bs := []) (rest := []) (ct_size hy) dX9_run_75 rfl (q_at hy) rfl rfl tw_228 tw_229 tw_230 tw_43 tw_231 (by decide +kernel) rfl (Nat.le_of_ble_eq_true rfl) (Nat.le_of_ble_eq_true rfl) (Nat.le_of_ble_eq_true rfl) (fun rr M1 hr hle1 => ?_)
          obtain ⟨rfl, hM1⟩ := hr
          obtain rfl := hM1.symm
          rw [show nI (gG γ' (3, 0), y).1.length = nI (sR σ').length from congrArg nI hlen]
          refine xw_istore (L2 := [(7, .int (nI (sR σ').length)), (6, .int (nI w)), (4, .long q), (0, .ref (aT A)), (1, .int (nI n)), (2, .long p)]) dX9_run_78 (by decide) rfl ?_
          refine xw_iload dX9_run_80 rfl ?_
          refine xw_if_ne (tgt := 88) dX9_run_82 (by decide) (fun d3 => ?_) (fun d3 => ?_)
          · have t2 : 0 < (sR σ').length := Nat.pos_of_ne_zero (fun zz => d3 (by rw [zz]; rfl))
            have hm : (sR σ').length < 2 ^ 31 := by omega
            have hne0 : ¬ (nI (sR σ').length).toInt64 = 0 := by
              intro zz
              rw [nI_l hm] at zz
              have q := congrArg Int64.toInt zz
              rw [pk_lT (show (sR σ').length < 2 ^ 63 by omega)] at q
              have q0 : (0 : Int64).toInt = 0 := by decide
              omega
            refine xw_lload dX9_run_88 rfl ?_
            refine xw_iconst (v := 1) dX9_run_90 (by decide) ?_
            refine xw_lushr dX9_run_91 ?_
            refine xw_iload dX9_run_92 rfl ?_
            refine xw_i2l dX9_run_94 ?_
            refine xw_lrem dX9_run_95 hne0 ?_
            refine xw_l2i dX9_run_96 ?_
            obtain ⟨hj, hje⟩ := pick_ok q t2 hm
            refine Eq.mp (congrArg (fun z => XW G 12 285 mX9_run [.ref (aT A), .int (nI n), .long p] M _ _ _ _ [.int z]) hje.symm) ?_
            obtain ⟨j, hjd⟩ : ∃ j, j = pick q (sR σ').length := ⟨_, rfl⟩
            rw [← hjd] at hj ⊢
            refine xw_istore (L2 := [(8, .int (nI j)), (7, .int (nI (sR σ').length)), (6, .int (nI w)), (4, .long q), (0, .ref (aT A)), (1, .int (nI n)), (2, .long p)]) dX9_run_97 (by decide) rfl ?_
            refine xw_lload dX9_run_99 rfl ?_
            refine xw_ldc2 (v := 25214903917) tw_615 dX9_run_101 ?_
            refine xw_lmul dX9_run_104 ?_
            refine xw_ldc2 (v := 11) tw_616 dX9_run_105 ?_
            refine xw_ladd dX9_run_108 ?_
            refine xw_lstore (L2 := [(4, .long ((q * 25214903917) + 11)), (8, .int (nI j)), (7, .int (nI (sR σ').length)), (6, .int (nI w)), (0, .ref (aT A)), (1, .int (nI n)), (2, .long p)]) dX9_run_109 (by decide) rfl ?_
            refine xw_iinc (v := (nI w) + 1) (L2 := [(6, .int ((nI w) + 1)), (4, .long ((q * 25214903917) + 11)), (8, .int (nI j)), (7, .int (nI (sR σ').length)), (0, .ref (aT A)), (1, .int (nI n)), (2, .long p)]) dX9_run_111 rfl rfl (by decide) rfl ?_
            refine xw_aload_n dX9_run_114 rfl rfl ?_
            refine xw_dup dX9_run_115 rfl ?_
            refine xw_get (ci := 10) (k := 10) (v := .int (nI (sW σ'))) dX9_run_116 hH rfl inX9 (by decide) tw_190 (Or.inl rfl) rfl ?_
            refine xw_iconst (v := 1) dX9_run_119 (by decide) ?_
            refine xw_iadd dX9_run_120 ?_
            refine xw_pc (pc2 := 121) rfl ?_
            rw [nI_1, nI_1]
            refine xw_put (ci := 10) (k := 10) tyX9 dX9_run_121 hH rfl inX9 tyX9_ok nmX9 (by decide) tw_190 (Or.inl rfl) rfl rfl rfl rfl (Nat.le_of_ble_eq_true rfl) ?_
            dsimp only [List.set]
            refine xw_aload_n dX9_run_124 rfl rfl ?_
            refine xw_dup dX9_run_125 rfl ?_
            refine xw_get (ci := 10) (k := 11) (v := .int (nI (sAl σ'))) dX9_run_126 (show So (oput M' 10 (aT A) (some [.ref (aV A), .ref (aN A), .ref (aF A), .ref (aR A), .ref (aX A), .ref (aC A), .ref (aQ A), .int (nI (sNt σ')), .int (nI (sK σ').length), .int (nI (sTr σ')), .int (nI (sW σ' + 1)), .int (nI (sAl σ')), .int (nI (sB σ'))])) 10 (aT A) = _ by rw [So_oput, if_pos ⟨rfl, rfl⟩]) rfl inX9 (by decide) tw_191 (Or.inl rfl) rfl ?_
            refine xw_iconst (v := 1) dX9_run_129 (by decide) ?_
            refine xw_iadd dX9_run_130 ?_
            rw [nI_1]
            refine xw_put (ci := 10) (k := 11) tyX9 dX9_run_131 (show So (oput M' 10 (aT A) (some [.ref (aV A), .ref (aN A), .ref (aF A), .ref (aR A), .ref (aX A), .ref (aC A), .ref (aQ A), .int (nI (sNt σ')), .int (nI (sK σ').length), .int (nI (sTr σ')), .int (nI (sW σ' + 1)), .int (nI (sAl σ')), .int (nI (sB σ'))])) 10 (aT A) = _ by rw [So_oput, if_pos ⟨rfl, rfl⟩]) rfl inX9 tyX9_ok nmX9 (by decide) tw_191 (Or.inl rfl) rfl rfl rfl rfl (Nat.le_of_ble_eq_true rfl) ?_
            dsimp only [List.set]
            rw [oput_oput]
            have hB2 := hR.2.1.hd (a := aT A) (x := some [.ref (aV A), .ref (aN A), .ref (aF A), .ref (aR A), .ref (aX A), .ref (aC A), .ref (aQ A), .int (nI (sNt σ')), .int (nI (sK σ').length), .int (nI (sTr σ')), .int (nI (sW σ' + 1)), .int (nI (sAl σ' + 1)), .int (nI (sB σ'))])
            have hX2 : XE A M' (oput M' 10 (aT A) (some [.ref (aV A), .ref (aN A), .ref (aF A), .ref (aR A), .ref (aX A), .ref (aC A), .ref (aQ A), .int (nI (sNt σ')), .int (nI (sK σ').length), .int (nI (sTr σ')), .int (nI (sW σ' + 1)), .int (nI (sAl σ' + 1)), .int (nI (sB σ'))])) := xe_hd
            have hH2 : So (oput M' 10 (aT A) (some [.ref (aV A), .ref (aN A), .ref (aF A), .ref (aR A), .ref (aX A), .ref (aC A), .ref (aQ A), .int (nI (sNt σ')), .int (nI (sK σ').length), .int (nI (sTr σ')), .int (nI (sW σ' + 1)), .int (nI (sAl σ' + 1)), .int (nI (sB σ'))])) 10 (aT A) = some [.ref (aV A), .ref (aN A), .ref (aF A), .ref (aR A), .ref (aX A), .ref (aC A), .ref (aQ A), .int (nI (sNt σ')), .int (nI (sK σ').length), .int (nI (sTr σ')), .int (nI (sW σ' + 1)), .int (nI (sAl σ' + 1)), .int (nI (sB σ'))] := by rw [So_oput, if_pos ⟨rfl, rfl⟩]
            have hy2 : Sq (oput M' 10 (aT A) (some [.ref (aV A), .ref (aN A), .ref (aF A), .ref (aR A), .ref (aX A), .ref (aC A), .ref (aQ A), .int (nI (sNt σ')), .int (nI (sK σ').length), .int (nI (sTr σ')), .int (nI (sW σ' + 1)), .int (nI (sAl σ' + 1)), .int (nI (sB σ'))])) (aR A) = some (gG γ' (3, 0), y) := hy
            generalize oput M' 10 (aT A) (some [.ref (aV A), .ref (aN A), .ref (aF A), .ref (aR A), .ref (aX A), .ref (aC A), .ref (aQ A), .int (nI (sNt σ')), .int (nI (sK σ').length), .int (nI (sTr σ')), .int (nI (sW σ' + 1)), .int (nI (sAl σ' + 1)), .int (nI (sB σ'))]) = M2 at hB2 hX2 hH2 hy2 ⊢
            refine xw_aload_n dX9_run_134 rfl rfl ?_
            refine xw_aload_n dX9_run_135 rfl rfl ?_
            refine xw_get (ci := 10) (k := 3) (v := .ref (aR A)) dX9_run_136 hH2 rfl inX9 (by decide) tw_183 (Or.inl rfl) rfl ?_
            refine xw_iload dX9_run_139 rfl ?_
            have hjl : j < (gG γ' (3, 0)).length := by omega
            refine xw_wf fun hw2 => ?_
            refine xw_callV (q2 := mJx4a65c_remove_915e3) (n2 := 1) (ci := 0) (Bs := [.int (nI j)]) (rest := [.ref (aT A)]) (ct_remove (ci := 5) hy2 (i := j) hjl (by show y.1 ≤ 20000001; omega) (by decide) rfl ks_F (fun g hg => hB2.isF (hB2.inMD act_3 hg))) dX9_run_141 rfl (q_at hy2) rfl rfl tw_617 tw_401 tw_402 tw_43 tw_403 (by decide +kernel) rfl (Nat.le_of_ble_eq_true rfl) (Nat.le_of_ble_eq_true rfl) (Nat.le_of_ble_eq_true rfl) (fun rr M1 hr hle1 => ?_)
            obtain ⟨rfl, hM1⟩ := hr
            obtain ⟨f, hf0⟩ : ∃ f, f = (gG γ' (3, 0))[j] := ⟨_, rfl⟩
            refine Eq.mp (congrArg (fun z => XW G 12 285 mX9_run [.ref (aT A), .int (nI n), .long p] M _ _ _ _ [.ref z, .ref (aT A)]) hf0) ?_
            have hel : (gG γ' (3, 0))[j]? = some f := by rw [List.getElem?_eq_getElem hjl, hf0]
            have hmem : f ∈ gG γ' (3, 0) := List.mem_of_getElem? hel
            have hmd := hB2.inMD act_3 hmem
            obtain ⟨x, hx⟩ : ∃ x, (sR σ')[j]? = some x := ⟨_, List.getElem?_eq_getElem hj⟩
            have hxm : x ∈ sR σ' := List.mem_of_getElem? hx
            obtain ⟨g1, g2, g3, g4⟩ := hR.2.2.2.2.2.2.2.1 x hxm
            have hpair : (nad Γ x.1, nI x.2.1, x.2.2) = (gna γ' f, gfc γ' f, gft γ' f) := by
              have q := congrArg (fun l => l[j]?) hR.2.1.2.2.1.2.2.2.2.1
              simp only [List.getElem?_map, hx, hel, Option.map_some] at q
              exact Option.some.inj q
            obtain ⟨e1, e23⟩ := Prod.mk.inj hpair
            obtain ⟨e2, e3⟩ := Prod.mk.inj e23
            obtain ⟨va, w0, w1, w2, p1, p2, -⟩ := hB2.2.1.2.2.1 f hmd
            have hB3 : RepB M1 A Γ (upW σ' j) (mv γ' (3, 0) ((gG γ' (3, 0)).eraseIdx j) f (4, 0)) (b + 2400 * sAl σ') := by
              rw [hM1]
              refine (hB2.list (r0 := (3, 0)) (r1 := (4, 0)) (f := f) (σ' := uR σ' ((sR σ').eraseIdx j)) act_3 ext_qput ⟨_, by rw [ad_3, Sq_qput, if_pos rfl]⟩ (hB2.2.2.1.unready hel) ⟨rfl, rfl, rfl, rfl, rfl, rfl⟩ ?_).cg (σ' := upW σ' j) (upW_6 σ' j) (upW_3 σ' j).1 (upW_3 σ' j).2.1 (upW_3 σ' j).2.2
              rw [if_neg (fun zz => absurd (show (2 : Nat) = 3 from congrArg Prod.fst zz) (by decide))]
              refine hB2.2.2.2.2.2.2.less hw2 hy2 (List.length_eraseIdx_le _ _) (fun zz => ?_)
              have q := (hB2.2.1.2.1 (2, 0) act_2).2
              rw [ad_2, ← zz, ad_3, hro] at q
              exact absurd (show (3 : Nat) = 2 from congrArg Prod.fst q) (by decide)
            have hX3 : XE A M' M1 := hX2.tr (by rw [hM1]; exact ext_qput.mono (fun _ _ => False.elim) (fun _ _ => trivial) (fun _ => False.elim) (fun _ => False.elim))
            have p2' : So M1 5 f = some [.ref (aV A), .ref va, .ref (gna γ' f), .int (gfc γ' f), .int (nI (cnt (gft γ' f)))] := by rw [hM1]; exact p2
            have hR3 : Rep M1 A Γ (upW σ' j) (mv γ' (3, 0) ((gG γ' (3, 0)).eraseIdx j) f (4, 0)) (b + 2400 * sAl σ') := ⟨by rw [hM1]; exact hH2, hB3, hR.2.2.up t1⟩
            have hfl : fly (mv γ' (3, 0) ((gG γ' (3, 0)).eraseIdx j) f (4, 0)) f := ⟨hmd, by rw [mv_pl, if_pos rfl]⟩
            clear hM1 hB3
            have hrl : ((sR σ').eraseIdx j).length + 1 = (sR σ').length := by rw [List.length_eraseIdx_of_lt hj]; omega
            refine xw_cast (ci := 5) dX9_run_144 p2' rfl tw_454 ?_
            have qg := ct_going (G := G) (f := f) (i := x.1) (c := x.2.1) (t := x.2.2) hR3 hb' hfl ⟨e1.symm, e2.symm, e3.symm⟩ g1 g2 g3 g4 (show sNt σ' + ((sR σ').eraseIdx j).length + (sK σ').length < 300 by omega) (show (sRs σ').length < sW σ' + 1 by omega)
            refine xw_callV (q2 := mX9_go) (n2 := 1) (ci := 10) (Bs := [.ref f]) (rest := []) (qg) dX9_run_147 rfl (o_at hR3.1) rfl rfl tw_618 tw_620 tw_7 tw_39 tw_621 (by decide +kernel) rfl (Nat.le_of_ble_eq_true rfl) (Nat.le_of_ble_eq_true rfl) (Nat.le_of_ble_eq_true rfl) (fun rr M1 hr hle1 => ?_)
            obtain ⟨rfl, γ4, hR4, hX4⟩ := hr
            refine xw_goto (tgt := 48) dX9_run_150 (by decide) ?_
            refine xw_sub (L2 := [(6, .int (nI (w + 1))), (4, .long ((q * 25214903917) + 11)), (0, .ref (aT A)), (1, .int (nI n)), (2, .long p)]) (.cons_cons _ (.cons_cons _ (.cons _ (.cons _ (.cons_cons _ (.cons_cons _ (.cons_cons _ .slnil))))))) ?_
            have hal4 : sAl (acts (upW σ' j) x.1 x.2.1 x.2.2) = sAl σ' + 1 := (acts_k _ _ _ _).2.2.1
            refine ih (w + 1) _ M1 _ γ4 (by omega) (hR4.mono (by rw [hal4]; exact ar6 _ _)) ?_ (hX.tr (hX3.tr hX4))
            rw [← hS, runs_s, if_neg (by omega), ← hjd, hx, goAt_some]
          · have t2 : (sR σ').length = 0 := (nI_eq (by omega) (by decide)).mp (show nI _ = nI 0 from d3)
            refine xw_goto (tgt := 153) dX9_run_85 (by decide) ?_
            refine xw_iload dX9_run_153 rfl ?_
            rw [stop (Or.inr (Or.inr t2))]
            exact xw_iret rfl dX9_run_155 ⟨rfl, γ', hR, hX⟩
  refine ct_go (by decide +kernel) (Nat.le_of_ble_eq_true rfl) (L := [(0, .ref (aT A)), (1, .int (nI n)), (2, .long p)]) rfl ?_
  have hH := h.hdr
  refine xw_iload_n dX9_run_0 rfl rfl ?_
  refine xw_iconst (v := 1) dX9_run_1 (by decide) ?_
  refine xw_pc (pc2 := 2) rfl ?_
  refine xw_icmp_lt (tgt := 12) dX9_run_2 (by decide) (fun zz => absurd zz (show ¬ nI n < nI 1 from nI_nlt (by omega) (by omega))) (fun _ => ?_)
  refine xw_iload_n dX9_run_5 rfl rfl ?_
  refine xw_sipush (v := 500) dX9_run_6 (by decide) ?_
  refine xw_icmp_le (tgt := 22) dX9_run_9 (by decide) (fun _ => ?_) (fun zz => absurd (show nI n ≤ nI 500 from nI_le (by omega) (by decide)) zz)
  refine xw_aload_n dX9_run_22 rfl rfl ?_
  refine xw_get (ci := 10) (k := 11) (v := .int (nI (sAl σ))) dX9_run_23 hH rfl inX9 (by decide) tw_191 (Or.inl rfl) rfl ?_
  refine xw_sipush (v := 5000) dX9_run_26 (by decide) ?_
  refine xw_icmp_lt (tgt := 42) dX9_run_29 (by decide) (fun _ => ?_) (fun zz => absurd (show nI (sAl σ) < nI 5000 from nI_lt hal (by decide)) zz)
  refine xw_lload_n dX9_run_42 rfl rfl ?_
  refine xw_lstore (L2 := [(4, .long p), (0, .ref (aT A)), (1, .int (nI n)), (2, .long p)]) dX9_run_43 (by decide) rfl ?_
  refine xw_iconst (v := 0) dX9_run_45 (by decide) ?_
  refine xw_istore (L2 := [(6, .int 0), (4, .long p), (0, .ref (aT A)), (1, .int (nI n)), (2, .long p)]) dX9_run_46 (by decide) rfl ?_
  exact xw_pc rfl (loop (runs n p 0 σ) n 0 p M σ γ (by omega) h rfl (XE.rf _ _))
end RUN
