/-! THE REFERENCE: errorOf, take, keepResult -/
theorem xw_mem {G : hx_G} {d lo : Nat} {q : hx_M} {As : List Value} {M0 M : hx_S} {P : Option Value → hx_S → Prop} {pc : Nat} {L L2 : List (Nat × Value)} {st : List Value} (hs : ∀ x, x ∈ L2 → x ∈ L) (k : XW G d lo q As M0 P M pc L2 st) : XW G d lo q As M0 P M pc L st :=
  xw_s (fun p e R s m below meth c Q k n H locs ls _ _ hl kk => kk ls ⟨hl.1, hl.2.1, fun x hx => hl.2.2 x (hs x hx)⟩) k
def er1 (e : Nat) (v : V2) : Nat := if v.1 = 1 ∧ (e = 0 ∨ v.2.toNatClampNeg < e) then v.2.toNatClampNeg else e
def sk {α : Type} (n : Nat) (f : Nat → α) (a b : Nat) : Nat → α := fun x => if a ≤ x ∧ x < b then f (x + n) else f x
theorem sk_0 {α : Type} (n : Nat) (f : Nat → α) (a : Nat) : sk n f a a = f := by
  funext x; unfold sk; rw [if_neg (by omega)]
theorem sk_s (n : Nat) (f : Nat → Int32) {a b : Nat} (h : a ≤ b) : upd (sk n f a b) b (sk n f a b (b + n)) = sk n f a (b + 1) := by
  funext x
  unfold upd sk
  by_cases e : x = b
  · rw [if_pos e, if_neg (by omega), if_pos (by omega), e]
  · rw [if_neg e]
    by_cases z : a ≤ x ∧ x < b
    · rw [if_pos z, if_pos (by omega)]
    · rw [if_neg z, if_neg (by omega)]
theorem sk_sL (n : Nat) (f : Nat → Int64) {a b : Nat} (h : a ≤ b) : vp_updL (sk n f a b) b (sk n f a b (b + n)) = sk n f a (b + 1) := by
  funext x
  unfold vp_updL sk
  by_cases e : x = b
  · rw [if_pos e, if_neg (by omega), if_pos (by omega), e]
  · rw [if_neg e]
    by_cases z : a ≤ x ∧ x < b
    · rw [if_pos z, if_pos (by omega)]
    · rw [if_neg z, if_neg (by omega)]
/-- the ready ones' arrays from k on one place down: as far as j, and b of the values -/
def rR (ρ : hr_S) (k j b : Nat) : hr_S := rJ (rI (rI (rI ρ 24 (sk 1 (ρ.2.1 24) k j)) 25 (sk 1 (ρ.2.1 25) k j)) 26 (sk 3 (ρ.2.1 26) (3 * k) b)) 27 (sk 3 (ρ.2.2 27) (3 * k) b)
theorem rR_ag (ρ : hr_S) (k j b : Nat) : AG [24, 25, 26, 27] ρ (rR ρ k j b) := by
  unfold rR
  exact ((((AG.rf _ ρ).i (by decide)).i (by decide)).i (by decide)).j (by decide)
theorem rR_v (ρ : hr_S) (k j b : Nat) : (rR ρ k j b).2.1 24 = sk 1 (ρ.2.1 24) k j ∧ (rR ρ k j b).2.1 25 = sk 1 (ρ.2.1 25) k j ∧ (rR ρ k j b).2.1 26 = sk 3 (ρ.2.1 26) (3 * k) b ∧ (rR ρ k j b).2.2 27 = sk 3 (ρ.2.2 27) (3 * k) b := by
  unfold rR
  simp [rS_1, rS_2, rS_3, rI_1, rI_2, rI_3, rJ_1, rJ_2, rJ_3]
/-- what is told by four arrays and all others -/
theorem hr_ext4 {ρ ρ' : hr_S} (h24 : ρ.2.1 24 = ρ'.2.1 24) (h25 : ρ.2.1 25 = ρ'.2.1 25) (h26 : ρ.2.1 26 = ρ'.2.1 26) (h27 : ρ.2.2 27 = ρ'.2.2 27) (h1 : ρ.1 = ρ'.1) (h2 : ∀ k, k ≠ 24 → k ≠ 25 → k ≠ 26 → ρ.2.1 k = ρ'.2.1 k) (h3 : ∀ k, k ≠ 27 → ρ.2.2 k = ρ'.2.2 k) : ρ = ρ' := by
  refine hr_ext (fun k => by rw [h1]) (fun k => ?_) (fun k => ?_)
  · by_cases z1 : k = 24
    · rw [z1, h24]
    · by_cases z2 : k = 25
      · rw [z2, h25]
      · by_cases z3 : k = 26
        · rw [z3, h26]
        · exact h2 k z1 z2 z3
  · by_cases z : k = 27
    · rw [z, h27]
    · exact h3 k z
theorem rR_n (ρ : hr_S) (k j b n : Nat) (h : n ≠ 24 ∧ n ≠ 25 ∧ n ≠ 26) : (rR ρ k j b).2.1 n = ρ.2.1 n := by
  unfold rR
  simp [rS_1, rS_2, rS_3, rI_1, rI_2, rI_3, rJ_1, rJ_2, rJ_3, h.1, h.2.1, h.2.2]
theorem rR_m (ρ : hr_S) (k j b n : Nat) (h : n ≠ 27) : (rR ρ k j b).2.2 n = ρ.2.2 n := by
  unfold rR
  simp [rS_1, rS_2, rS_3, rI_1, rI_2, rI_3, rJ_1, rJ_2, rJ_3, h]
theorem rR_1 (ρ : hr_S) (k j b : Nat) : (rR ρ k j b).1 = ρ.1 := rfl
theorem rR_0 (ρ : hr_S) (k : Nat) : rR ρ k k (3 * k) = ρ := by
  obtain ⟨a1, a2, a3, a4⟩ := rR_v ρ k k (3 * k)
  rw [sk_0] at a1 a2 a3 a4
  exact hr_ext4 a1 a2 a3 a4 rfl (fun n z1 z2 z3 => rR_n ρ k k (3 * k) n ⟨z1, z2, z3⟩) (fun n z => rR_m ρ k k (3 * k) n z)
theorem rR_s1 (ρ R : hr_S) {k j b : Nat} (h : k ≤ j) (hR : R = rR ρ k j b) : rI (rI R 24 (upd (R.2.1 24) j (R.2.1 24 (j + 1)))) 25 (upd (R.2.1 25) j (R.2.1 25 (j + 1))) = rR ρ k (j + 1) b := by
  obtain ⟨a1, a2, a3, a4⟩ := rR_v ρ k j b
  obtain ⟨b1, b2, b3, b4⟩ := rR_v ρ k (j + 1) b
  rw [hR, a1, a2, sk_s _ _ h, sk_s _ _ h]
  refine hr_ext4 ?_ ?_ ?_ ?_ rfl (fun n z1 z2 z3 => ?_) (fun n z => ?_)
  · rw [b1]; simp [rS_1, rS_2, rS_3, rI_1, rI_2, rI_3, rJ_1, rJ_2, rJ_3]
  · rw [b2]; simp [rS_1, rS_2, rS_3, rI_1, rI_2, rI_3, rJ_1, rJ_2, rJ_3]
  · rw [b3]; simp [rS_1, rS_2, rS_3, rI_1, rI_2, rI_3, rJ_1, rJ_2, rJ_3, a3]
  · rw [b4]; simp [rS_1, rS_2, rS_3, rI_1, rI_2, rI_3, rJ_1, rJ_2, rJ_3, a4]
  · rw [rR_n ρ k (j + 1) b n ⟨z1, z2, z3⟩]
    simp only [rS_1, rS_2, rS_3, rI_1, rI_2, rI_3, rJ_1, rJ_2, rJ_3, if_neg z1, if_neg z2]
    exact rR_n ρ k j b n ⟨z1, z2, z3⟩
  · rw [rR_m ρ k (j + 1) b n z]
    simp only [rS_1, rS_2, rS_3, rI_1, rI_2, rI_3, rJ_1, rJ_2, rJ_3]
    exact rR_m ρ k j b n z
theorem rR_s2 (ρ R : hr_S) {k j b : Nat} (h : 3 * k ≤ b) (hR : R = rR ρ k j b) : rJ (rI R 26 (upd (R.2.1 26) b (R.2.1 26 (b + 3)))) 27 (vp_updL (R.2.2 27) b (R.2.2 27 (b + 3))) = rR ρ k j (b + 1) := by
  obtain ⟨a1, a2, a3, a4⟩ := rR_v ρ k j b
  obtain ⟨b1, b2, b3, b4⟩ := rR_v ρ k j (b + 1)
  rw [hR, a3, a4, sk_s _ _ h, sk_sL _ _ h]
  refine hr_ext4 ?_ ?_ ?_ ?_ rfl (fun n z1 z2 z3 => ?_) (fun n z => ?_)
  · rw [b1]; simp [rS_1, rS_2, rS_3, rI_1, rI_2, rI_3, rJ_1, rJ_2, rJ_3, a1]
  · rw [b2]; simp [rS_1, rS_2, rS_3, rI_1, rI_2, rI_3, rJ_1, rJ_2, rJ_3, a2]
  · rw [b3]; simp [rS_1, rS_2, rS_3, rI_1, rI_2, rI_3, rJ_1, rJ_2, rJ_3]
  · rw [b4]; simp [rS_1, rS_2, rS_3, rI_1, rI_2, rI_3, rJ_1, rJ_2, rJ_3]
  · rw [rR_n ρ k j (b + 1) n ⟨z1, z2, z3⟩]
    simp only [rS_1, rS_2, rS_3, rI_1, rI_2, rI_3, rJ_1, rJ_2, rJ_3, if_neg z3]
    exact rR_n ρ k j b n ⟨z1, z2, z3⟩
  · rw [rR_m ρ k j (b + 1) n z]
    simp only [rS_1, rS_2, rS_3, rI_1, rI_2, rI_3, rJ_1, rJ_2, rJ_3, if_neg z]
    exact rR_m ρ k j b n z
section RTAKE
variable {G : hx_G} {M M1 : hx_S} {m : Nat} {B : Nat → Nat} {ρ ρ' : hr_S} {σ σ' : hs_S} {T : List TK} {i c p s na : Nat} {v x y : V2} {th : Int32} {K : Nat → Int32} {V : Nat → Int64}
theorem er1_b {e : Nat} (he : e ≤ 4) (hv : GV na v) : er1 e v ≤ 4 := by
  unfold er1
  split
  · next h =>
    rcases hv with z | ⟨-, k, h1, h2, h3⟩ | z
    · rw [h.1] at z; exact absurd z (by decide)
    · rw [h3, lN_clamp (by omega)]; exact h2
    · rw [h.1] at z; exact absurd z.1 (by decide)
  · exact he
theorem ct_merrorOf {n : Nat} (hR : RW M m B ρ) (hn : n = 1 ∨ n = 2) (hx : GV na x) (hy : n = 2 → GV na y) (k0 : ρ.2.1 39 0 = x.1 ∧ ρ.2.2 40 0 = x.2) (k1 : n = 2 → ρ.2.1 39 1 = y.1 ∧ ρ.2.2 40 1 = y.2) : CT G 0 0 mX10_errorOf [.ref m, .int (nI n)] M (fun r M1 => r = some (.int (nI (if n = 2 then er1 (er1 0 x) y else er1 0 x))) ∧ M1 = M) := by
  obtain ⟨P, hP⟩ : ∃ P : Option Value → hx_S → Prop, P = (fun r M1 => r = some (.int (nI (if n = 2 then er1 (er1 0 x) y else er1 0 x))) ∧ M1 = M) := ⟨_, rfl⟩
  rw [← hP]
  have step : ∀ (p e : Nat) (v : V2), p < n → e ≤ 4 → GV na v → (ρ.2.1 39 p = v.1 ∧ ρ.2.2 40 p = v.2) → XW G 0 0 mX10_errorOf [.ref m, .int (nI n)] M P M 4 [(3, .int (nI (p + 1))), (2, .int (nI (er1 e v))), (0, .ref m), (1, .int (nI n))] [] → XW G 0 0 mX10_errorOf [.ref m, .int (nI n)] M P M 4 [(3, .int (nI p)), (2, .int (nI e)), (0, .ref m), (1, .int (nI n))] [] := by
    intro p e v hp he hv kk hk
    have hin : vp_in (nI p) 3 := vp_in_nI (by omega) (by decide)
    have hp31 : p < 2 ^ 31 := by omega
    have skip : er1 e v = e → XW G 0 0 mX10_errorOf [.ref m, .int (nI n)] M P M 43 [(3, .int (nI p)), (2, .int (nI e)), (0, .ref m), (1, .int (nI n))] [] := by
      intro h
      rw [h] at hk
      refine xw_iinc (v := (nI p) + 1) (L2 := [(3, .int ((nI p) + 1)), (2, .int (nI e)), (0, .ref m), (1, .int (nI n))]) dX10_errorOf_43 rfl rfl (by decide) rfl ?_
      refine xw_goto (tgt := 4) dX10_errorOf_46 (by decide) ?_
      rw [nI_1]
      exact hk
    have put : ∀ k, v.2 = lN k → k < 2 ^ 31 → er1 e v = k → XW G 0 0 mX10_errorOf [.ref m, .int (nI n)] M P M 35 [(3, .int (nI p)), (2, .int (nI e)), (0, .ref m), (1, .int (nI n))] [] := by
      intro k hk2 hk31 h
      rw [h] at hk
      refine xw_aload_n dX10_errorOf_35 rfl rfl ?_
      refine xw_get (ci := 11) (k := 40) (v := .ref (B 40)) dX10_errorOf_36 hR.1 rfl inX10 (by decide) tw_831 (Or.inl rfl) rfl ?_
      refine xw_iload_n dX10_errorOf_39 rfl rfl ?_
      refine xw_lald dX10_errorOf_40 (hR.2.2.1 40 rfl) hin ?_
      rw [nI_clamp hp31]
      rw [kk.2, hk2]
      refine xw_l2i dX10_errorOf_41 ?_
      rw [lN_i]
      refine xw_istore_n (L2 := [(2, .int (nI k)), (3, .int (nI p)), (0, .ref m), (1, .int (nI n))]) dX10_errorOf_42 rfl (by decide) rfl ?_
      refine xw_iinc (v := (nI p) + 1) (L2 := [(3, .int ((nI p) + 1)), (2, .int (nI k)), (0, .ref m), (1, .int (nI n))]) dX10_errorOf_43 rfl rfl (by decide) rfl ?_
      refine xw_goto (tgt := 4) dX10_errorOf_46 (by decide) ?_
      rw [nI_1]
      refine xw_mem (L2 := [(3, .int (nI (p + 1))), (2, .int (nI k)), (0, .ref m), (1, .int (nI n))]) (by simp) ?_
      exact hk
    refine xw_iload_n dX10_errorOf_4 rfl rfl ?_
    refine xw_iload_n dX10_errorOf_5 rfl rfl ?_
    refine xw_icmp_ge (tgt := 49) dX10_errorOf_6 (by decide) (fun zz => absurd zz (nI_ge hp (by omega))) (fun _ => ?_)
    refine xw_aload_n dX10_errorOf_9 rfl rfl ?_
    refine xw_get (ci := 11) (k := 39) (v := .ref (B 39)) dX10_errorOf_10 hR.1 rfl inX10 (by decide) tw_830 (Or.inl rfl) rfl ?_
    refine xw_iload_n dX10_errorOf_13 rfl rfl ?_
    refine xw_pc (pc2 := 14) rfl ?_
    refine xw_iald dX10_errorOf_14 (hR.2.1 39 rfl) hin ?_
    rw [nI_clamp hp31]
    rw [kk.1]
    refine xw_iconst (v := 1) dX10_errorOf_15 (by decide) ?_
    refine xw_icmp_ne (tgt := 43) dX10_errorOf_16 (by decide) (fun c1 => ?_) (fun c1 => ?_)
    · exact xw_pc rfl (skip (by unfold er1; rw [if_neg (fun z => c1 z.1)]))
    · obtain ⟨k, h1, h2, h3⟩ : ∃ k : Nat, 1 ≤ k ∧ k ≤ 4 ∧ v.2 = lN k := by
        rcases hv with z | ⟨-, z⟩ | z
        · rw [c1] at z; exact absurd z (by decide)
        · exact z
        · rw [c1] at z; exact absurd z.1 (by decide)
      have hcl : v.2.toNatClampNeg = k := by rw [h3, lN_clamp (by omega)]
      refine xw_iload_n dX10_errorOf_19 rfl rfl ?_
      refine xw_if_eq (tgt := 35) dX10_errorOf_20 (by decide) (fun c2 => ?_) (fun c2 => ?_)
      · have e0 : e = 0 := (nI_eq (by omega) (by decide)).mp (show nI e = nI 0 from c2)
        exact xw_pc rfl (put k h3 (by omega) (by unfold er1; rw [if_pos ⟨c1, Or.inl e0⟩, hcl]))
      · have e0 : ¬ e = 0 := fun z => c2 (by rw [z]; rfl)
        refine xw_aload_n dX10_errorOf_23 rfl rfl ?_
        refine xw_get (ci := 11) (k := 40) (v := .ref (B 40)) dX10_errorOf_24 hR.1 rfl inX10 (by decide) tw_831 (Or.inl rfl) rfl ?_
        refine xw_iload_n dX10_errorOf_27 rfl rfl ?_
        refine xw_lald dX10_errorOf_28 (hR.2.2.1 40 rfl) hin ?_
        rw [nI_clamp hp31]
        rw [kk.2, h3]
        refine xw_iload_n dX10_errorOf_29 rfl rfl ?_
        refine xw_i2l dX10_errorOf_30 ?_
        refine xw_lcmp dX10_errorOf_31 ?_
        rw [nI_l (show e < 2 ^ 31 by omega)]
        refine xw_if_ge (tgt := 43) dX10_errorOf_32 (by decide) (fun c3 => ?_) (fun c3 => ?_)
        · have : ¬ k < e := fun z => absurd ((lg_cmp_ge _ _).mp c3) (by rw [Int64.not_le]; exact (pk_lLT (by omega) (by omega)).mpr z)
          exact xw_pc rfl (skip (by unfold er1; rw [if_neg (fun z => z.2.elim e0 (by rw [hcl]; exact this))]))
        · have : k < e := (pk_lLT (by omega) (by omega)).mp (Int64.not_le.mp (fun z => c3 ((lg_cmp_ge _ _).mpr z)))
          exact xw_pc rfl (put k h3 (by omega) (by unfold er1; rw [if_pos ⟨c1, Or.inr (by rw [hcl]; exact this)⟩, hcl]))
  have fin : ∀ e, e = (if n = 2 then er1 (er1 0 x) y else er1 0 x) → XW G 0 0 mX10_errorOf [.ref m, .int (nI n)] M P M 4 [(3, .int (nI n)), (2, .int (nI e)), (0, .ref m), (1, .int (nI n))] [] := by
    intro e he
    refine xw_iload_n dX10_errorOf_4 rfl rfl ?_
    refine xw_iload_n dX10_errorOf_5 rfl rfl ?_
    refine xw_icmp_ge (tgt := 49) dX10_errorOf_6 (by decide) (fun _ => ?_) (fun zz => absurd (nI_le (Nat.le_refl n) (by omega)) zz)
    refine xw_iload_n dX10_errorOf_49 rfl rfl ?_
    rw [hP, he]
    exact xw_iret rfl dX10_errorOf_50 ⟨rfl, rfl⟩
  refine ct_go (by decide +kernel) (Nat.le_of_ble_eq_true rfl) (L := [(0, .ref m), (1, .int (nI n))]) rfl ?_
  refine xw_iconst (v := 0) dX10_errorOf_0 (by decide) ?_
  refine xw_istore_n (L2 := [(2, .int 0), (0, .ref m), (1, .int (nI n))]) dX10_errorOf_1 rfl (by decide) rfl ?_
  refine xw_iconst (v := 0) dX10_errorOf_2 (by decide) ?_
  refine xw_istore_n (L2 := [(3, .int 0), (2, .int 0), (0, .ref m), (1, .int (nI n))]) dX10_errorOf_3 rfl (by decide) rfl ?_
  refine xw_pc (pc2 := 4) rfl ?_
  have b0 := er1_b (e := 0) (by decide) hx
  rcases hn with rfl | rfl
  · exact xw_pc rfl (step 0 0 x (by omega) (by decide) hx k0 (fin _ (by rw [if_neg (by decide)])))
  · exact xw_pc rfl (step 0 0 x (by omega) (by decide) hx k0 (step 1 _ y (by omega) b0 (hy rfl) (k1 rfl) (fin _ (by rw [if_pos rfl]))))
end RTAKE
