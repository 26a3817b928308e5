/-! THE REFERENCE: its object, its arrays; scalars and arrays by the field's number -/
abbrev hr_S : Type := (Nat → Int32) × (Nat → Nat → Int32) × (Nat → Nat → Int64)
def ilen (k : Nat) : Nat := ([0, 0, 40, 40, 40, 240, 240, 240, 0, 0, 151, 151, 151, 0, 40, 320, 0, 0, 302, 302, 302, 302, 0, 0, 302, 302, 906, 0, 0, 302, 302, 302, 0, 5001, 0, 5001, 0, 0, 0, 3, 0] : List Nat).getD k 0
def jlen (k : Nat) : Nat := ([0, 0, 0, 0, 0, 0, 0, 0, 0, 0, 0, 0, 0, 0, 0, 0, 320, 0, 0, 0, 0, 0, 302, 0, 0, 0, 0, 906, 0, 0, 0, 0, 0, 0, 5001, 0, 0, 0, 0, 0, 3] : List Nat).getD k 0
def isI (k : Nat) : Bool := ilen k != 0
def isJ (k : Nat) : Bool := jlen k != 0
def rS (ρ : hr_S) (k : Nat) (v : Int32) : hr_S := ((fun j => if j = k then v else ρ.1 j), ρ.2.1, ρ.2.2)
def rI (ρ : hr_S) (k : Nat) (f : Nat → Int32) : hr_S := (ρ.1, (fun j => if j = k then f else ρ.2.1 j), ρ.2.2)
def rJ (ρ : hr_S) (k : Nat) (f : Nat → Int64) : hr_S := (ρ.1, ρ.2.1, (fun j => if j = k then f else ρ.2.2 j))
def flM (B : Nat → Nat) (S : Nat → Int32) : List Value := [.int (S 0), .int (S 1), .ref (B 2), .ref (B 3), .ref (B 4), .ref (B 5), .ref (B 6), .ref (B 7), .int (S 8), .int (S 9), .ref (B 10), .ref (B 11), .ref (B 12), .int (S 13), .ref (B 14), .ref (B 15), .ref (B 16), .int (S 17), .ref (B 18), .ref (B 19), .ref (B 20), .ref (B 21), .ref (B 22), .int (S 23), .ref (B 24), .ref (B 25), .ref (B 26), .ref (B 27), .int (S 28), .ref (B 29), .ref (B 30), .ref (B 31), .int (S 32), .ref (B 33), .ref (B 34), .ref (B 35), .int (S 36), .int (S 37), .int (S 38), .ref (B 39), .ref (B 40)]
def RW (M : hx_S) (m : Nat) (B : Nat → Nat) (ρ : hr_S) : Prop := So M 11 m = some (flM B ρ.1) ∧ (∀ k, isI k = true → Si M (B k) = some (ilen k, ρ.2.1 k)) ∧ (∀ k, isJ k = true → Sj M (B k) = some (jlen k, ρ.2.2 k)) ∧ (∀ i j, (isI i || isJ i) = true → (isI j || isJ j) = true → B i = B j → i = j)
/-- what the reference's methods leave alone -/
def EF (M M1 : hx_S) (m : Nat) (B : Nat → Nat) : Prop := (Sz M1 = Sz M ∧ Sl M1 = Sl M ∧ Sr M1 = Sr M ∧ Sq M1 = Sq M) ∧ (∀ c x, ¬ (c = 11 ∧ x = m) → So M1 c x = So M c x) ∧ (∀ x, (∀ k, isI k = true → x ≠ B k) → Si M1 x = Si M x) ∧ (∀ x, (∀ k, isJ k = true → x ≠ B k) → Sj M1 x = Sj M x)
section REF
variable {M M1 M2 : hx_S} {m : Nat} {B : Nat → Nat} {ρ : hr_S} {k : Nat}
theorem EF.rf (M : hx_S) (m : Nat) (B : Nat → Nat) : EF M M m B := ⟨⟨rfl, rfl, rfl, rfl⟩, fun _ _ _ => rfl, fun _ _ => rfl, fun _ _ => rfl⟩
theorem EF.tr (h : EF M M1 m B) (h2 : EF M1 M2 m B) : EF M M2 m B := ⟨⟨h2.1.1.trans h.1.1, h2.1.2.1.trans h.1.2.1, h2.1.2.2.1.trans h.1.2.2.1, h2.1.2.2.2.trans h.1.2.2.2⟩, fun c x n => (h2.2.1 c x n).trans (h.2.1 c x n), fun x n => (h2.2.2.1 x n).trans (h.2.2.1 x n), fun x n => (h2.2.2.2 x n).trans (h.2.2.2 x n)⟩
theorem EF.o {x : Option (List Value)} : EF M (oput M 11 m x) m B := ⟨⟨rfl, rfl, rfl, rfl⟩, fun c y n => by rw [So_oput, if_neg n], fun _ _ => rfl, fun _ _ => rfl⟩
theorem EF.i {x : Option (Nat × (Nat → Int32))} (hk : isI k = true) : EF M (iput M (B k) x) m B := ⟨⟨rfl, rfl, rfl, rfl⟩, fun _ _ _ => rfl, fun y n => by rw [Si_iput, if_neg (n k hk)], fun _ _ => rfl⟩
theorem EF.j {x : Option (Nat × (Nat → Int64))} (hk : isJ k = true) : EF M (jput M (B k) x) m B := ⟨⟨rfl, rfl, rfl, rfl⟩, fun _ _ _ => rfl, fun _ _ => rfl, fun y n => by rw [Sj_jput, if_neg (n k hk)]⟩
theorem RW.iset {f : Nat → Int32} (h : RW M m B ρ) (hk : isI k = true) : RW (iput M (B k) (some (ilen k, f))) m B (rI ρ k f) := by
  obtain ⟨h1, h2, h3, h4⟩ := h
  refine ⟨h1, fun j hj => ?_, h3, h4⟩
  rw [Si_iput]
  show _ = some (ilen j, if j = k then f else ρ.2.1 j)
  by_cases e : j = k
  · rw [if_pos (by rw [e]), if_pos e, e]
  · rw [if_neg (fun z => e (h4 j k (by rw [hj]; rfl) (by rw [hk]; rfl) z)), if_neg e]; exact h2 j hj
theorem RW.jset {f : Nat → Int64} (h : RW M m B ρ) (hk : isJ k = true) : RW (jput M (B k) (some (jlen k, f))) m B (rJ ρ k f) := by
  obtain ⟨h1, h2, h3, h4⟩ := h
  refine ⟨h1, h2, fun j hj => ?_, h4⟩
  rw [Sj_jput]
  show _ = some (jlen j, if j = k then f else ρ.2.2 j)
  by_cases e : j = k
  · rw [if_pos (by rw [e]), if_pos e, e]
  · rw [if_neg (fun z => e (h4 j k (by rw [hj, Bool.or_true]) (by rw [hk, Bool.or_true]) z)), if_neg e]; exact h3 j hj
theorem RW.sset {v : Int32} (h : RW M m B ρ) : RW (oput M 11 m (some (flM B (rS ρ k v).1))) m B (rS ρ k v) := by
  obtain ⟨h1, h2, h3, h4⟩ := h
  exact ⟨by rw [So_oput, if_pos ⟨rfl, rfl⟩], h2, h3, h4⟩
end REF
/-! the reference's arrays hold σ; its waiting tokens are T, in their order -/
abbrev TK : Type := N3 × V2
def HT (ρ : hr_S) (T : List TK) : Prop := ρ.1 17 = nI T.length ∧ ∀ (k : Nat) (x : TK), T[k]? = some x → ρ.2.1 18 k = nI x.1.1 ∧ ρ.2.1 19 k = nI x.1.2.2 ∧ ρ.2.1 20 k = nI x.1.2.1 ∧ ρ.2.1 21 k = x.2.1 ∧ ρ.2.2 22 k = x.2.2
def TB (T : List TK) : Prop := T.length ≤ 301 ∧ ∀ x, x ∈ T → x.1.1 < 40 ∧ x.1.2.1 < 151 ∧ x.1.2.2 < 3
def HNd (ρ : hr_S) (L : List ND) : Prop := ρ.1 1 = nI L.length ∧ ∀ (i : Nat) (x : ND), L[i]? = some x → ρ.2.1 2 i = nI x.1 ∧ ρ.2.1 3 i = x.2.1 ∧ ρ.2.1 4 i = nI x.2.2.length ∧ ∀ (k : Nat) (e : N3), x.2.2[k]? = some e → ρ.2.1 5 (6 * i + k) = nI e.1 ∧ ρ.2.1 6 (6 * i + k) = nI e.2.1 ∧ ρ.2.1 7 (6 * i + k) = nI e.2.2
def HCx (ρ : hr_S) (L : List T3) : Prop := ρ.1 9 = nI L.length ∧ ∀ (j : Nat) (e : T3), L[j]? = some e → ρ.2.1 10 j = e.1 ∧ ρ.2.1 11 j = e.2.1 ∧ ρ.2.1 12 j = e.2.2
def HAr (ρ : hr_S) (a : Nat) (le : Nat → Nat) (ce : Nat → Option V2) : Prop := ρ.1 13 = nI a ∧ (∀ k, k < a → ρ.2.1 14 k = nI (le k)) ∧ ∀ c, c < 8 * a → ρ.2.1 15 c = ((ce c).getD (3, 0)).1 ∧ ρ.2.2 16 c = ((ce c).getD (3, 0)).2
def HRd (ρ : hr_S) (L : List R3) : Prop := ρ.1 23 = nI L.length ∧ ∀ (k : Nat) (x : R3), L[k]? = some x → ρ.2.1 24 k = nI x.1 ∧ ρ.2.1 25 k = nI x.2.1 ∧ ∀ (p : Nat) (v : V2), p < 3 → x.2.2 p = some v → ρ.2.1 26 (3 * k + p) = v.1 ∧ ρ.2.2 27 (3 * k + p) = v.2
def HKp (ρ : hr_S) (L : List N3) : Prop := ρ.1 28 = nI L.length ∧ ∀ (k : Nat) (x : N3), L[k]? = some x → ρ.2.1 29 k = nI x.1 ∧ ρ.2.1 30 k = nI x.2.1 ∧ ρ.2.1 31 k = nI x.2.2
def HRs (ρ : hr_S) (L : List (V2 × Nat)) : Prop := ρ.1 32 = nI L.length ∧ ∀ (k : Nat) (x : V2 × Nat), L[k]? = some x → ρ.2.1 33 k = x.1.1 ∧ ρ.2.2 34 k = x.1.2 ∧ ρ.2.1 35 k = nI x.2
def HSc (ρ : hr_S) (σ : hs_S) : Prop := ρ.1 8 = nI (sB σ) ∧ ρ.1 36 = nI (sTr σ) ∧ ρ.1 37 = nI (sW σ) ∧ ρ.1 38 = nI (sAl σ)
/-- all but the waiting tokens -/
def Ab (ρ : hr_S) (σ : hs_S) : Prop := HNd ρ (sN σ) ∧ HCx ρ (sC σ) ∧ HAr ρ (sA σ) (sLe σ) (sCe σ) ∧ HRd ρ (sR σ) ∧ HKp ρ (sK σ) ∧ HRs ρ (sRs σ) ∧ HSc ρ σ
/-- the waiting tokens -/
def WT (σ : hs_S) (T : List TK) : Prop := (T.map (fun x => x.1)).Nodup ∧ ∀ i c p v, ((i, c, p), v) ∈ T ↔ sT σ i c p = some v
section REFM
variable {G : hx_G} {M M1 : hx_S} {m : Nat} {B : Nat → Nat} {ρ : hr_S} {σ : hs_S} {T : List TK}
theorem ct_mports {o : Nat} (ho : o < 18) : CT G 0 0 mX10_ports [.int (nI o)] M (fun r M1 => r = some (.int (nI (prt o))) ∧ M1 = M) := by
  refine ct_go (by decide +kernel) (Nat.le_of_ble_eq_true rfl) (L := [(0, .int (nI o))]) rfl ?_
  rcases (show o = 0 ∨ o = 1 ∨ o = 2 ∨ o = 3 ∨ o = 4 ∨ o = 5 ∨ o = 6 ∨ o = 7 ∨ o = 8 ∨ o = 9 ∨ o = 10 ∨ o = 11 ∨ o = 12 ∨ o = 13 ∨ o = 14 ∨ o = 15 ∨ o = 16 ∨ o = 17 by omega) with rfl | rfl | rfl | rfl | rfl | rfl | rfl | rfl | rfl | rfl | rfl | rfl | rfl | rfl | rfl | rfl | rfl | rfl
  · skip
    refine xw_iload_n dX10_ports_0 rfl rfl ?_
    refine xw_iconst (v := 1) dX10_ports_1 (by decide) ?_
    refine xw_icmp_lt (tgt := 10) dX10_ports_2 (by decide) (fun _ => ?_) (fun zz => absurd (by decide +kernel) zz)
    refine xw_iload_n dX10_ports_10 rfl rfl ?_
    refine xw_bipush (v := 7) dX10_ports_11 (by decide) ?_
    refine xw_icmp_eq (tgt := 22) dX10_ports_13 (by decide) (fun zz => absurd zz (by decide +kernel)) (fun _ => ?_)
    refine xw_iload_n dX10_ports_16 rfl rfl ?_
    refine xw_bipush (v := 15) dX10_ports_17 (by decide) ?_
    refine xw_icmp_ne (tgt := 26) dX10_ports_19 (by decide) (fun _ => ?_) (fun zz => absurd zz (by decide +kernel))
    refine xw_iload_n dX10_ports_26 rfl rfl ?_
    refine xw_bipush (v := 16) dX10_ports_27 (by decide) ?_
    refine xw_icmp_ne (tgt := 36) dX10_ports_29 (by decide) (fun _ => ?_) (fun zz => absurd zz (by decide +kernel))
    refine xw_iconst (v := 1) dX10_ports_36 (by decide) ?_
    exact xw_iret rfl dX10_ports_37 ⟨rfl, rfl⟩
  · skip
    refine xw_iload_n dX10_ports_0 rfl rfl ?_
    refine xw_iconst (v := 1) dX10_ports_1 (by decide) ?_
    refine xw_icmp_lt (tgt := 10) dX10_ports_2 (by decide) (fun zz => absurd zz (by decide +kernel)) (fun _ => ?_)
    refine xw_iload_n dX10_ports_5 rfl rfl ?_
    refine xw_iconst (v := 5) dX10_ports_6 (by decide) ?_
    refine xw_pc (pc2 := 7) rfl ?_
    refine xw_icmp_le (tgt := 22) dX10_ports_7 (by decide) (fun _ => ?_) (fun zz => absurd (by decide +kernel) zz)
    refine xw_iconst (v := 2) dX10_ports_22 (by decide) ?_
    refine xw_goto (tgt := 37) dX10_ports_23 (by decide) ?_
    exact xw_iret rfl dX10_ports_37 ⟨rfl, rfl⟩
  · skip
    refine xw_iload_n dX10_ports_0 rfl rfl ?_
    refine xw_iconst (v := 1) dX10_ports_1 (by decide) ?_
    refine xw_icmp_lt (tgt := 10) dX10_ports_2 (by decide) (fun zz => absurd zz (by decide +kernel)) (fun _ => ?_)
    refine xw_iload_n dX10_ports_5 rfl rfl ?_
    refine xw_iconst (v := 5) dX10_ports_6 (by decide) ?_
    refine xw_icmp_le (tgt := 22) dX10_ports_7 (by decide) (fun _ => ?_) (fun zz => absurd (by decide +kernel) zz)
    refine xw_iconst (v := 2) dX10_ports_22 (by decide) ?_
    refine xw_goto (tgt := 37) dX10_ports_23 (by decide) ?_
    exact xw_iret rfl dX10_ports_37 ⟨rfl, rfl⟩
  · skip
    refine xw_iload_n dX10_ports_0 rfl rfl ?_
    refine xw_iconst (v := 1) dX10_ports_1 (by decide) ?_
    refine xw_icmp_lt (tgt := 10) dX10_ports_2 (by decide) (fun zz => absurd zz (by decide +kernel)) (fun _ => ?_)
    refine xw_iload_n dX10_ports_5 rfl rfl ?_
    refine xw_iconst (v := 5) dX10_ports_6 (by decide) ?_
    refine xw_icmp_le (tgt := 22) dX10_ports_7 (by decide) (fun _ => ?_) (fun zz => absurd (by decide +kernel) zz)
    refine xw_iconst (v := 2) dX10_ports_22 (by decide) ?_
    refine xw_goto (tgt := 37) dX10_ports_23 (by decide) ?_
    refine xw_pc (pc2 := 37) rfl ?_
    exact xw_iret rfl dX10_ports_37 ⟨rfl, rfl⟩
  · skip
    refine xw_iload_n dX10_ports_0 rfl rfl ?_
    refine xw_iconst (v := 1) dX10_ports_1 (by decide) ?_
    refine xw_icmp_lt (tgt := 10) dX10_ports_2 (by decide) (fun zz => absurd zz (by decide +kernel)) (fun _ => ?_)
    refine xw_iload_n dX10_ports_5 rfl rfl ?_
    refine xw_iconst (v := 5) dX10_ports_6 (by decide) ?_
    refine xw_icmp_le (tgt := 22) dX10_ports_7 (by decide) (fun _ => ?_) (fun zz => absurd (by decide +kernel) zz)
    refine xw_iconst (v := 2) dX10_ports_22 (by decide) ?_
    refine xw_goto (tgt := 37) dX10_ports_23 (by decide) ?_
    exact xw_iret rfl dX10_ports_37 ⟨rfl, rfl⟩
  · skip
    refine xw_iload_n dX10_ports_0 rfl rfl ?_
    refine xw_iconst (v := 1) dX10_ports_1 (by decide) ?_
    refine xw_icmp_lt (tgt := 10) dX10_ports_2 (by decide) (fun zz => absurd zz (by decide +kernel)) (fun _ => ?_)
    refine xw_iload_n dX10_ports_5 rfl rfl ?_
    refine xw_iconst (v := 5) dX10_ports_6 (by decide) ?_
    refine xw_icmp_le (tgt := 22) dX10_ports_7 (by decide) (fun _ => ?_) (fun zz => absurd (by decide +kernel) zz)
    refine xw_iconst (v := 2) dX10_ports_22 (by decide) ?_
    refine xw_goto (tgt := 37) dX10_ports_23 (by decide) ?_
    exact xw_iret rfl dX10_ports_37 ⟨rfl, rfl⟩
  · skip
    refine xw_iload_n dX10_ports_0 rfl rfl ?_
    refine xw_iconst (v := 1) dX10_ports_1 (by decide) ?_
    refine xw_pc (pc2 := 2) rfl ?_
    refine xw_icmp_lt (tgt := 10) dX10_ports_2 (by decide) (fun zz => absurd zz (by decide +kernel)) (fun _ => ?_)
    refine xw_iload_n dX10_ports_5 rfl rfl ?_
    refine xw_iconst (v := 5) dX10_ports_6 (by decide) ?_
    refine xw_icmp_le (tgt := 22) dX10_ports_7 (by decide) (fun zz => absurd zz (by decide +kernel)) (fun _ => ?_)
    refine xw_iload_n dX10_ports_10 rfl rfl ?_
    refine xw_bipush (v := 7) dX10_ports_11 (by decide) ?_
    refine xw_icmp_eq (tgt := 22) dX10_ports_13 (by decide) (fun zz => absurd zz (by decide +kernel)) (fun _ => ?_)
    refine xw_iload_n dX10_ports_16 rfl rfl ?_
    refine xw_bipush (v := 15) dX10_ports_17 (by decide) ?_
    refine xw_icmp_ne (tgt := 26) dX10_ports_19 (by decide) (fun _ => ?_) (fun zz => absurd zz (by decide +kernel))
    refine xw_iload_n dX10_ports_26 rfl rfl ?_
    refine xw_bipush (v := 16) dX10_ports_27 (by decide) ?_
    refine xw_icmp_ne (tgt := 36) dX10_ports_29 (by decide) (fun _ => ?_) (fun zz => absurd zz (by decide +kernel))
    refine xw_iconst (v := 1) dX10_ports_36 (by decide) ?_
    exact xw_iret rfl dX10_ports_37 ⟨rfl, rfl⟩
  · skip
    refine xw_iload_n dX10_ports_0 rfl rfl ?_
    refine xw_iconst (v := 1) dX10_ports_1 (by decide) ?_
    refine xw_icmp_lt (tgt := 10) dX10_ports_2 (by decide) (fun zz => absurd zz (by decide +kernel)) (fun _ => ?_)
    refine xw_iload_n dX10_ports_5 rfl rfl ?_
    refine xw_iconst (v := 5) dX10_ports_6 (by decide) ?_
    refine xw_pc (pc2 := 7) rfl ?_
    refine xw_icmp_le (tgt := 22) dX10_ports_7 (by decide) (fun zz => absurd zz (by decide +kernel)) (fun _ => ?_)
    refine xw_iload_n dX10_ports_10 rfl rfl ?_
    refine xw_bipush (v := 7) dX10_ports_11 (by decide) ?_
    refine xw_icmp_eq (tgt := 22) dX10_ports_13 (by decide) (fun _ => ?_) (fun zz => absurd (by decide +kernel) zz)
    refine xw_iconst (v := 2) dX10_ports_22 (by decide) ?_
    refine xw_goto (tgt := 37) dX10_ports_23 (by decide) ?_
    exact xw_iret rfl dX10_ports_37 ⟨rfl, rfl⟩
  · skip
    refine xw_iload_n dX10_ports_0 rfl rfl ?_
    refine xw_iconst (v := 1) dX10_ports_1 (by decide) ?_
    refine xw_icmp_lt (tgt := 10) dX10_ports_2 (by decide) (fun zz => absurd zz (by decide +kernel)) (fun _ => ?_)
    refine xw_iload_n dX10_ports_5 rfl rfl ?_
    refine xw_iconst (v := 5) dX10_ports_6 (by decide) ?_
    refine xw_icmp_le (tgt := 22) dX10_ports_7 (by decide) (fun zz => absurd zz (by decide +kernel)) (fun _ => ?_)
    refine xw_iload_n dX10_ports_10 rfl rfl ?_
    refine xw_bipush (v := 7) dX10_ports_11 (by decide) ?_
    refine xw_icmp_eq (tgt := 22) dX10_ports_13 (by decide) (fun zz => absurd zz (by decide +kernel)) (fun _ => ?_)
    refine xw_iload_n dX10_ports_16 rfl rfl ?_
    refine xw_bipush (v := 15) dX10_ports_17 (by decide) ?_
    refine xw_icmp_ne (tgt := 26) dX10_ports_19 (by decide) (fun _ => ?_) (fun zz => absurd zz (by decide +kernel))
    refine xw_iload_n dX10_ports_26 rfl rfl ?_
    refine xw_bipush (v := 16) dX10_ports_27 (by decide) ?_
    refine xw_pc (pc2 := 29) rfl ?_
    refine xw_icmp_ne (tgt := 36) dX10_ports_29 (by decide) (fun _ => ?_) (fun zz => absurd zz (by decide +kernel))
    refine xw_iconst (v := 1) dX10_ports_36 (by decide) ?_
    exact xw_iret rfl dX10_ports_37 ⟨rfl, rfl⟩
  · skip
    refine xw_iload_n dX10_ports_0 rfl rfl ?_
    refine xw_iconst (v := 1) dX10_ports_1 (by decide) ?_
    refine xw_icmp_lt (tgt := 10) dX10_ports_2 (by decide) (fun zz => absurd zz (by decide +kernel)) (fun _ => ?_)
    refine xw_iload_n dX10_ports_5 rfl rfl ?_
    refine xw_iconst (v := 5) dX10_ports_6 (by decide) ?_
    refine xw_icmp_le (tgt := 22) dX10_ports_7 (by decide) (fun zz => absurd zz (by decide +kernel)) (fun _ => ?_)
    refine xw_iload_n dX10_ports_10 rfl rfl ?_
    refine xw_bipush (v := 7) dX10_ports_11 (by decide) ?_
    refine xw_icmp_eq (tgt := 22) dX10_ports_13 (by decide) (fun zz => absurd zz (by decide +kernel)) (fun _ => ?_)
    refine xw_iload_n dX10_ports_16 rfl rfl ?_
    refine xw_bipush (v := 15) dX10_ports_17 (by decide) ?_
    refine xw_icmp_ne (tgt := 26) dX10_ports_19 (by decide) (fun _ => ?_) (fun zz => absurd zz (by decide +kernel))
    refine xw_iload_n dX10_ports_26 rfl rfl ?_
    refine xw_bipush (v := 16) dX10_ports_27 (by decide) ?_
    refine xw_icmp_ne (tgt := 36) dX10_ports_29 (by decide) (fun _ => ?_) (fun zz => absurd zz (by decide +kernel))
    refine xw_iconst (v := 1) dX10_ports_36 (by decide) ?_
    exact xw_iret rfl dX10_ports_37 ⟨rfl, rfl⟩
  · skip
    refine xw_iload_n dX10_ports_0 rfl rfl ?_
    refine xw_iconst (v := 1) dX10_ports_1 (by decide) ?_
    refine xw_pc (pc2 := 2) rfl ?_
    refine xw_icmp_lt (tgt := 10) dX10_ports_2 (by decide) (fun zz => absurd zz (by decide +kernel)) (fun _ => ?_)
    refine xw_iload_n dX10_ports_5 rfl rfl ?_
    refine xw_iconst (v := 5) dX10_ports_6 (by decide) ?_
    refine xw_icmp_le (tgt := 22) dX10_ports_7 (by decide) (fun zz => absurd zz (by decide +kernel)) (fun _ => ?_)
    refine xw_iload_n dX10_ports_10 rfl rfl ?_
    refine xw_bipush (v := 7) dX10_ports_11 (by decide) ?_
    refine xw_icmp_eq (tgt := 22) dX10_ports_13 (by decide) (fun zz => absurd zz (by decide +kernel)) (fun _ => ?_)
    refine xw_iload_n dX10_ports_16 rfl rfl ?_
    refine xw_bipush (v := 15) dX10_ports_17 (by decide) ?_
    refine xw_icmp_ne (tgt := 26) dX10_ports_19 (by decide) (fun _ => ?_) (fun zz => absurd zz (by decide +kernel))
    refine xw_iload_n dX10_ports_26 rfl rfl ?_
    refine xw_bipush (v := 16) dX10_ports_27 (by decide) ?_
    refine xw_icmp_ne (tgt := 36) dX10_ports_29 (by decide) (fun _ => ?_) (fun zz => absurd zz (by decide +kernel))
    refine xw_iconst (v := 1) dX10_ports_36 (by decide) ?_
    exact xw_iret rfl dX10_ports_37 ⟨rfl, rfl⟩
  · skip
    refine xw_iload_n dX10_ports_0 rfl rfl ?_
    refine xw_iconst (v := 1) dX10_ports_1 (by decide) ?_
    refine xw_icmp_lt (tgt := 10) dX10_ports_2 (by decide) (fun zz => absurd zz (by decide +kernel)) (fun _ => ?_)
    refine xw_iload_n dX10_ports_5 rfl rfl ?_
    refine xw_iconst (v := 5) dX10_ports_6 (by decide) ?_
    refine xw_pc (pc2 := 7) rfl ?_
    refine xw_icmp_le (tgt := 22) dX10_ports_7 (by decide) (fun zz => absurd zz (by decide +kernel)) (fun _ => ?_)
    refine xw_iload_n dX10_ports_10 rfl rfl ?_
    refine xw_bipush (v := 7) dX10_ports_11 (by decide) ?_
    refine xw_icmp_eq (tgt := 22) dX10_ports_13 (by decide) (fun zz => absurd zz (by decide +kernel)) (fun _ => ?_)
    refine xw_iload_n dX10_ports_16 rfl rfl ?_
    refine xw_bipush (v := 15) dX10_ports_17 (by decide) ?_
    refine xw_icmp_ne (tgt := 26) dX10_ports_19 (by decide) (fun _ => ?_) (fun zz => absurd zz (by decide +kernel))
    refine xw_iload_n dX10_ports_26 rfl rfl ?_
    refine xw_bipush (v := 16) dX10_ports_27 (by decide) ?_
    refine xw_icmp_ne (tgt := 36) dX10_ports_29 (by decide) (fun _ => ?_) (fun zz => absurd zz (by decide +kernel))
    refine xw_iconst (v := 1) dX10_ports_36 (by decide) ?_
    exact xw_iret rfl dX10_ports_37 ⟨rfl, rfl⟩
  · skip
    refine xw_iload_n dX10_ports_0 rfl rfl ?_
    refine xw_iconst (v := 1) dX10_ports_1 (by decide) ?_
    refine xw_icmp_lt (tgt := 10) dX10_ports_2 (by decide) (fun zz => absurd zz (by decide +kernel)) (fun _ => ?_)
    refine xw_iload_n dX10_ports_5 rfl rfl ?_
    refine xw_iconst (v := 5) dX10_ports_6 (by decide) ?_
    refine xw_icmp_le (tgt := 22) dX10_ports_7 (by decide) (fun zz => absurd zz (by decide +kernel)) (fun _ => ?_)
    refine xw_iload_n dX10_ports_10 rfl rfl ?_
    refine xw_bipush (v := 7) dX10_ports_11 (by decide) ?_
    refine xw_pc (pc2 := 13) rfl ?_
    refine xw_icmp_eq (tgt := 22) dX10_ports_13 (by decide) (fun zz => absurd zz (by decide +kernel)) (fun _ => ?_)
    refine xw_iload_n dX10_ports_16 rfl rfl ?_
    refine xw_bipush (v := 15) dX10_ports_17 (by decide) ?_
    refine xw_icmp_ne (tgt := 26) dX10_ports_19 (by decide) (fun _ => ?_) (fun zz => absurd zz (by decide +kernel))
    refine xw_iload_n dX10_ports_26 rfl rfl ?_
    refine xw_bipush (v := 16) dX10_ports_27 (by decide) ?_
    refine xw_icmp_ne (tgt := 36) dX10_ports_29 (by decide) (fun _ => ?_) (fun zz => absurd zz (by decide +kernel))
    refine xw_iconst (v := 1) dX10_ports_36 (by decide) ?_
    exact xw_iret rfl dX10_ports_37 ⟨rfl, rfl⟩
  · skip
    refine xw_iload_n dX10_ports_0 rfl rfl ?_
    refine xw_iconst (v := 1) dX10_ports_1 (by decide) ?_
    refine xw_icmp_lt (tgt := 10) dX10_ports_2 (by decide) (fun zz => absurd zz (by decide +kernel)) (fun _ => ?_)
    refine xw_iload_n dX10_ports_5 rfl rfl ?_
    refine xw_iconst (v := 5) dX10_ports_6 (by decide) ?_
    refine xw_icmp_le (tgt := 22) dX10_ports_7 (by decide) (fun zz => absurd zz (by decide +kernel)) (fun _ => ?_)
    refine xw_iload_n dX10_ports_10 rfl rfl ?_
    refine xw_bipush (v := 7) dX10_ports_11 (by decide) ?_
    refine xw_icmp_eq (tgt := 22) dX10_ports_13 (by decide) (fun zz => absurd zz (by decide +kernel)) (fun _ => ?_)
    refine xw_iload_n dX10_ports_16 rfl rfl ?_
    refine xw_bipush (v := 15) dX10_ports_17 (by decide) ?_
    refine xw_pc (pc2 := 19) rfl ?_
    refine xw_icmp_ne (tgt := 26) dX10_ports_19 (by decide) (fun _ => ?_) (fun zz => absurd zz (by decide +kernel))
    refine xw_iload_n dX10_ports_26 rfl rfl ?_
    refine xw_bipush (v := 16) dX10_ports_27 (by decide) ?_
    refine xw_icmp_ne (tgt := 36) dX10_ports_29 (by decide) (fun _ => ?_) (fun zz => absurd zz (by decide +kernel))
    refine xw_iconst (v := 1) dX10_ports_36 (by decide) ?_
    exact xw_iret rfl dX10_ports_37 ⟨rfl, rfl⟩
  · skip
    refine xw_iload_n dX10_ports_0 rfl rfl ?_
    refine xw_iconst (v := 1) dX10_ports_1 (by decide) ?_
    refine xw_icmp_lt (tgt := 10) dX10_ports_2 (by decide) (fun zz => absurd zz (by decide +kernel)) (fun _ => ?_)
    refine xw_iload_n dX10_ports_5 rfl rfl ?_
    refine xw_iconst (v := 5) dX10_ports_6 (by decide) ?_
    refine xw_icmp_le (tgt := 22) dX10_ports_7 (by decide) (fun zz => absurd zz (by decide +kernel)) (fun _ => ?_)
    refine xw_iload_n dX10_ports_10 rfl rfl ?_
    refine xw_bipush (v := 7) dX10_ports_11 (by decide) ?_
    refine xw_icmp_eq (tgt := 22) dX10_ports_13 (by decide) (fun zz => absurd zz (by decide +kernel)) (fun _ => ?_)
    refine xw_iload_n dX10_ports_16 rfl rfl ?_
    refine xw_bipush (v := 15) dX10_ports_17 (by decide) ?_
    refine xw_icmp_ne (tgt := 26) dX10_ports_19 (by decide) (fun _ => ?_) (fun zz => absurd zz (by decide +kernel))
    refine xw_iload_n dX10_ports_26 rfl rfl ?_
    refine xw_bipush (v := 16) dX10_ports_27 (by decide) ?_
    refine xw_pc (pc2 := 29) rfl ?_
    refine xw_icmp_ne (tgt := 36) dX10_ports_29 (by decide) (fun _ => ?_) (fun zz => absurd zz (by decide +kernel))
    refine xw_iconst (v := 1) dX10_ports_36 (by decide) ?_
    exact xw_iret rfl dX10_ports_37 ⟨rfl, rfl⟩
  · skip
    refine xw_iload_n dX10_ports_0 rfl rfl ?_
    refine xw_iconst (v := 1) dX10_ports_1 (by decide) ?_
    refine xw_icmp_lt (tgt := 10) dX10_ports_2 (by decide) (fun zz => absurd zz (by decide +kernel)) (fun _ => ?_)
    refine xw_iload_n dX10_ports_5 rfl rfl ?_
    refine xw_iconst (v := 5) dX10_ports_6 (by decide) ?_
    refine xw_icmp_le (tgt := 22) dX10_ports_7 (by decide) (fun zz => absurd zz (by decide +kernel)) (fun _ => ?_)
    refine xw_iload_n dX10_ports_10 rfl rfl ?_
    refine xw_bipush (v := 7) dX10_ports_11 (by decide) ?_
    refine xw_icmp_eq (tgt := 22) dX10_ports_13 (by decide) (fun zz => absurd zz (by decide +kernel)) (fun _ => ?_)
    refine xw_iload_n dX10_ports_16 rfl rfl ?_
    refine xw_bipush (v := 15) dX10_ports_17 (by decide) ?_
    refine xw_icmp_ne (tgt := 26) dX10_ports_19 (by decide) (fun zz => absurd rfl zz) (fun _ => ?_)
    refine xw_iconst (v := 2) dX10_ports_22 (by decide) ?_
    refine xw_goto (tgt := 37) dX10_ports_23 (by decide) ?_
    exact xw_iret rfl dX10_ports_37 ⟨rfl, rfl⟩
  · skip
    refine xw_iload_n dX10_ports_0 rfl rfl ?_
    refine xw_iconst (v := 1) dX10_ports_1 (by decide) ?_
    refine xw_pc (pc2 := 2) rfl ?_
    refine xw_icmp_lt (tgt := 10) dX10_ports_2 (by decide) (fun zz => absurd zz (by decide +kernel)) (fun _ => ?_)
    refine xw_iload_n dX10_ports_5 rfl rfl ?_
    refine xw_iconst (v := 5) dX10_ports_6 (by decide) ?_
    refine xw_icmp_le (tgt := 22) dX10_ports_7 (by decide) (fun zz => absurd zz (by decide +kernel)) (fun _ => ?_)
    refine xw_iload_n dX10_ports_10 rfl rfl ?_
    refine xw_bipush (v := 7) dX10_ports_11 (by decide) ?_
    refine xw_icmp_eq (tgt := 22) dX10_ports_13 (by decide) (fun zz => absurd zz (by decide +kernel)) (fun _ => ?_)
    refine xw_iload_n dX10_ports_16 rfl rfl ?_
    refine xw_bipush (v := 15) dX10_ports_17 (by decide) ?_
    refine xw_icmp_ne (tgt := 26) dX10_ports_19 (by decide) (fun _ => ?_) (fun zz => absurd zz (by decide +kernel))
    refine xw_iload_n dX10_ports_26 rfl rfl ?_
    refine xw_bipush (v := 16) dX10_ports_27 (by decide) ?_
    refine xw_icmp_ne (tgt := 36) dX10_ports_29 (by decide) (fun zz => absurd rfl zz) (fun _ => ?_)
    refine xw_iconst (v := 3) dX10_ports_32 (by decide) ?_
    refine xw_goto (tgt := 37) dX10_ports_33 (by decide) ?_
    exact xw_iret rfl dX10_ports_37 ⟨rfl, rfl⟩
  · skip
    refine xw_iload_n dX10_ports_0 rfl rfl ?_
    refine xw_iconst (v := 1) dX10_ports_1 (by decide) ?_
    refine xw_icmp_lt (tgt := 10) dX10_ports_2 (by decide) (fun zz => absurd zz (by decide +kernel)) (fun _ => ?_)
    refine xw_iload_n dX10_ports_5 rfl rfl ?_
    refine xw_iconst (v := 5) dX10_ports_6 (by decide) ?_
    refine xw_pc (pc2 := 7) rfl ?_
    refine xw_icmp_le (tgt := 22) dX10_ports_7 (by decide) (fun zz => absurd zz (by decide +kernel)) (fun _ => ?_)
    refine xw_iload_n dX10_ports_10 rfl rfl ?_
    refine xw_bipush (v := 7) dX10_ports_11 (by decide) ?_
    refine xw_icmp_eq (tgt := 22) dX10_ports_13 (by decide) (fun zz => absurd zz (by decide +kernel)) (fun _ => ?_)
    refine xw_iload_n dX10_ports_16 rfl rfl ?_
    refine xw_bipush (v := 15) dX10_ports_17 (by decide) ?_
    refine xw_icmp_ne (tgt := 26) dX10_ports_19 (by decide) (fun _ => ?_) (fun zz => absurd zz (by decide +kernel))
    refine xw_iload_n dX10_ports_26 rfl rfl ?_
    refine xw_bipush (v := 16) dX10_ports_27 (by decide) ?_
    refine xw_icmp_ne (tgt := 36) dX10_ports_29 (by decide) (fun _ => ?_) (fun zz => absurd zz (by decide +kernel))
    refine xw_iconst (v := 1) dX10_ports_36 (by decide) ?_
    exact xw_iret rfl dX10_ports_37 ⟨rfl, rfl⟩
theorem ct_misNode (hR : RW M m B ρ) (hN : ρ.1 1 = nI (sN σ).length) {k : Int32} : CT G 0 0 mX10_isNode [.ref m, .int k] M (fun r M1 => r = some (.int (if inN σ k then 1 else 0)) ∧ M1 = M) := by
  refine ct_go (by decide +kernel) (Nat.le_of_ble_eq_true rfl) (L := [(0, .ref m), (1, .int k)]) rfl ?_
  refine xw_iload_n dX10_isNode_0 rfl rfl ?_
  refine xw_if_lt (tgt := 16) dX10_isNode_1 (by decide) (fun c1 => ?_) (fun c1 => ?_)
  · skip
    refine xw_iconst (v := 0) dX10_isNode_16 (by decide) ?_
    exact xw_zret rfl (by rfl) dX10_isNode_17 ⟨by rw [if_neg (fun z => z.1 c1)], rfl⟩
  · skip
    refine xw_iload_n dX10_isNode_4 rfl rfl ?_
    refine xw_aload_n dX10_isNode_5 rfl rfl ?_
    refine xw_get (ci := 11) (k := 1) (v := .int (ρ.1 1)) dX10_isNode_6 hR.1 rfl inX10 (by decide) tw_792 (Or.inl rfl) rfl ?_
    rw [hN]
    refine xw_icmp_ge (tgt := 16) dX10_isNode_9 (by decide) (fun c2 => ?_) (fun c2 => ?_)
    · skip
      refine xw_iconst (v := 0) dX10_isNode_16 (by decide) ?_
      refine xw_pc (pc2 := 17) rfl ?_
      exact xw_zret rfl (by rfl) dX10_isNode_17 ⟨by rw [if_neg (fun z => absurd c2 (by rw [Int32.not_le]; exact z.2))], rfl⟩
    · skip
      refine xw_iconst (v := 1) dX10_isNode_12 (by decide) ?_
      refine xw_goto (tgt := 17) dX10_isNode_13 (by decide) ?_
      exact xw_zret rfl (by rfl) dX10_isNode_17 ⟨by rw [if_pos ⟨c1, Int32.not_le.mp c2⟩], rfl⟩
theorem ct_mwaits (hR : RW M m B ρ) (hT : HT ρ T) (hB : TB T) {i p c : Nat} (hi : i < 40) (hp : p < 3) (hc : c < 151) : CT G 0 0 mX10_waits [.ref m, .int (nI i), .int (nI p), .int (nI c)] M (fun r M1 => M1 = M ∧ ((r = some (.int (-1)) ∧ ∀ x, x ∈ T → x.1 ≠ (i, c, p)) ∨ ∃ k v, r = some (.int (nI k)) ∧ T[k]? = some ((i, c, p), v))) := by
  have h301 := hB.1
  have loop : ∀ (n j : Nat), j + n = T.length → (∀ k x, k < j → T[k]? = some x → x.1 ≠ (i, c, p)) → XW G 0 0 mX10_waits [.ref m, .int (nI i), .int (nI p), .int (nI c)] M (fun r M1 => M1 = M ∧ ((r = some (.int (-1)) ∧ ∀ x, x ∈ T → x.1 ≠ (i, c, p)) ∨ ∃ k v, r = some (.int (nI k)) ∧ T[k]? = some ((i, c, p), v))) M 3 [(4, .int (nI j)), (0, .ref m), (1, .int (nI i)), (2, .int (nI p)), (3, .int (nI c))] [] := by
    intro n
    induction n with
    | zero =>
      intro j hj hno
      refine xw_iload dX10_waits_3 rfl ?_
      refine xw_aload_n dX10_waits_5 rfl rfl ?_
      refine xw_get (ci := 11) (k := 17) (v := .int (ρ.1 17)) dX10_waits_6 hR.1 rfl inX10 (by decide) tw_808 (Or.inl rfl) rfl ?_
      rw [hT.1]
      refine xw_icmp_ge (tgt := 54) dX10_waits_9 (by decide) (fun _ => ?_) (fun zz => absurd (nI_le (show T.length ≤ j by omega) (by omega)) zz)
      refine xw_iconst (v := (-1)) dX10_waits_54 (by decide) ?_
      refine xw_iret rfl dX10_waits_55 ⟨rfl, Or.inl ⟨rfl, fun x hx => ?_⟩⟩
      obtain ⟨k, hk⟩ := List.getElem?_of_mem hx
      exact hno k x (by have := (List.getElem?_eq_some_iff.mp hk).1; omega) hk
    | succ n ih =>
      intro j hj hno
      obtain ⟨x, hx⟩ : ∃ x, T[j]? = some x := ⟨_, List.getElem?_eq_getElem (show j < T.length by omega)⟩
      obtain ⟨b1, b2, b3⟩ := hB.2 x (List.mem_of_getElem? hx)
      obtain ⟨a1, a2, a3, -⟩ := hT.2 j x hx
      have hin : vp_in (nI j) 302 := vp_in_nI (by omega) (by decide)
      have hj31 : j < 2 ^ 31 := by omega
      have next : x.1 ≠ (i, c, p) → ∀ k y, k < j + 1 → T[k]? = some y → y.1 ≠ (i, c, p) := fun hne k y hk hy => by
        by_cases e : k = j
        · rw [e, hx] at hy; cases hy; exact hne
        · exact hno k y (by omega) hy
      have more : x.1 ≠ (i, c, p) → XW G 0 0 mX10_waits [.ref m, .int (nI i), .int (nI p), .int (nI c)] M (fun r M1 => M1 = M ∧ ((r = some (.int (-1)) ∧ ∀ x, x ∈ T → x.1 ≠ (i, c, p)) ∨ ∃ k v, r = some (.int (nI k)) ∧ T[k]? = some ((i, c, p), v))) M 48 [(4, .int (nI j)), (0, .ref m), (1, .int (nI i)), (2, .int (nI p)), (3, .int (nI c))] [] := fun hne => by
        refine xw_iinc (v := (nI j) + 1) (L2 := [(4, .int ((nI j) + 1)), (0, .ref m), (1, .int (nI i)), (2, .int (nI p)), (3, .int (nI c))]) dX10_waits_48 rfl rfl (by decide) rfl ?_
        refine xw_goto (tgt := 3) dX10_waits_51 (by decide) ?_
        rw [nI_1]
        exact ih (j + 1) (by omega) (next hne)
      refine xw_iload dX10_waits_3 rfl ?_
      refine xw_aload_n dX10_waits_5 rfl rfl ?_
      refine xw_get (ci := 11) (k := 17) (v := .int (ρ.1 17)) dX10_waits_6 hR.1 rfl inX10 (by decide) tw_808 (Or.inl rfl) rfl ?_
      rw [hT.1]
      refine xw_icmp_ge (tgt := 54) dX10_waits_9 (by decide) (fun zz => absurd zz (nI_ge (show j < T.length by omega) (by omega))) (fun _ => ?_)
      refine xw_aload_n dX10_waits_12 rfl rfl ?_
      refine xw_get (ci := 11) (k := 18) (v := .ref (B 18)) dX10_waits_13 hR.1 rfl inX10 (by decide) tw_809 (Or.inl rfl) rfl ?_
      refine xw_iload dX10_waits_16 rfl ?_
      refine xw_pc (pc2 := 18) rfl ?_
      refine xw_iald dX10_waits_18 (hR.2.1 18 rfl) hin ?_
      rw [nI_clamp hj31]
      rw [a1]
      refine xw_iload_n dX10_waits_19 rfl rfl ?_
      refine xw_icmp_ne (tgt := 48) dX10_waits_20 (by decide) (fun c1 => ?_) (fun c1 => ?_)
      · exact xw_pc rfl (more (fun z => c1 (by rw [z])))
      · have e1 : x.1.1 = i := (nI_eq (by omega) (by omega)).mp c1
        refine xw_aload_n dX10_waits_23 rfl rfl ?_
        refine xw_get (ci := 11) (k := 19) (v := .ref (B 19)) dX10_waits_24 hR.1 rfl inX10 (by decide) tw_810 (Or.inl rfl) rfl ?_
        refine xw_iload dX10_waits_27 rfl ?_
        refine xw_iald dX10_waits_29 (hR.2.1 19 rfl) hin ?_
        rw [nI_clamp hj31]
        rw [a2]
        refine xw_iload_n dX10_waits_30 rfl rfl ?_
        refine xw_icmp_ne (tgt := 48) dX10_waits_31 (by decide) (fun c2 => ?_) (fun c2 => ?_)
        · exact xw_pc rfl (more (fun z => c2 (by rw [z])))
        · have e2 : x.1.2.2 = p := (nI_eq (by omega) (by omega)).mp c2
          refine xw_aload_n dX10_waits_34 rfl rfl ?_
          refine xw_get (ci := 11) (k := 20) (v := .ref (B 20)) dX10_waits_35 hR.1 rfl inX10 (by decide) tw_811 (Or.inl rfl) rfl ?_
          refine xw_iload dX10_waits_38 rfl ?_
          refine xw_iald dX10_waits_40 (hR.2.1 20 rfl) hin ?_
          rw [nI_clamp hj31]
          rw [a3]
          refine xw_iload_n dX10_waits_41 rfl rfl ?_
          refine xw_icmp_ne (tgt := 48) dX10_waits_42 (by decide) (fun c3 => ?_) (fun c3 => ?_)
          · exact xw_pc rfl (more (fun z => c3 (by rw [z])))
          · have e3 : x.1.2.1 = c := (nI_eq (by omega) (by omega)).mp c3
            refine xw_iload dX10_waits_45 rfl ?_
            exact xw_iret rfl dX10_waits_47 ⟨rfl, Or.inr ⟨j, x.2, rfl, by rw [hx, ← e1, ← e2, ← e3]⟩⟩
  refine ct_go (by decide +kernel) (Nat.le_of_ble_eq_true rfl) (L := [(0, .ref m), (1, .int (nI i)), (2, .int (nI p)), (3, .int (nI c))]) rfl ?_
  refine xw_iconst (v := 0) dX10_waits_0 (by decide) ?_
  refine xw_istore (L2 := [(4, .int 0), (0, .ref m), (1, .int (nI i)), (2, .int (nI p)), (3, .int (nI c))]) dX10_waits_1 (by decide) rfl ?_
  exact xw_pc rfl (loop T.length 0 (by omega) (fun k x hk => absurd hk (Nat.not_lt_zero _)))
end REFM
