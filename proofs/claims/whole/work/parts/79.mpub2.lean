/-! THE REFERENCE: clear, node -/
section MPUB2
variable {G : hx_G} {M M1 : hx_S} {m : Nat} {B : Nat → Nat} {ρ ρ' : hr_S} {σ σ' : hs_S} {T : List TK} {i c s na d o : Nat} {x y z : V2} {th nn : Int32} {K : Nat → Int32} {V : Nat → Int64} {t : Nat → Option V2}
theorem ct_mclear {al : Int32} (h : RM M m B σ th K V) (hG : GS σ) : CT G 0 0 mX10_clear [.ref m, .int al] M (fun r M1 => r = none ∧ RM M1 m B (clr σ (if al = 0 then sN σ else [])) 0 K V ∧ EF M M1 m B) := by
  obtain ⟨ρ, T, hR, h0, hAb, hT, hW⟩ := id h
  obtain ⟨hNd, hC, hAr, hRd, hK, hRs, hS1, hS2, hS3, hS4⟩ := id hAb
  obtain ⟨e1, e2, e3⟩ := hC.2 0 _ hG.2.2.1.2.2.1
  have fin : ∀ (ρf : hr_S) (L : List ND) (M' : hx_S), RW M' m B ρf → AG [0, 1, 8, 9, 13, 17, 23, 28, 32, 36, 37] ρ ρf → (ρf.1 0 = 0 ∧ ρf.1 8 = 0 ∧ ρf.1 9 = 1 ∧ ρf.1 13 = 0 ∧ ρf.1 17 = 0 ∧ ρf.1 23 = 0 ∧ ρf.1 28 = 0 ∧ ρf.1 32 = 0 ∧ ρf.1 36 = 0 ∧ ρf.1 37 = 0) → HNd ρf L → RM M' m B (clr σ L) 0 K V := by
    intro ρf L M' hR' hA' ⟨f0, f8, f9, f13, f17, f23, f28, f32, f36, f37⟩ hL
    refine ⟨ρf, [], hR', ⟨f0, (hA' 39 (by decide)).2.1.trans h0.2.1, (hA' 40 (by decide)).2.2.trans h0.2.2⟩, ⟨hL, ⟨f9, fun j e he => ?_⟩, ⟨f13, fun k hk => absurd hk (Nat.not_lt_zero _), fun a ha => absurd ha (Nat.not_lt_zero _)⟩, ⟨f23, (fun k x hx => by cases hx)⟩, ⟨f28, (fun k x hx => by cases hx)⟩, ⟨f32, (fun k x hx => by cases hx)⟩, ⟨f8, f36, f37, (hA' 38 (by decide)).1.trans hS4⟩⟩, ⟨f17, (fun k x hx => by cases hx)⟩, List.nodup_nil, fun a b c' d => ⟨(fun z => by cases z), (fun z => by cases z)⟩⟩
    have he' : ([((-1, 0, 0) : T3)] : List T3)[j]? = some e := he
    have q := (List.getElem?_eq_some_iff.mp he').1
    rw [List.length_singleton] at q
    obtain rfl : j = 0 := by omega
    cases he'
    rw [(hA' 10 (by decide)).2.1, (hA' 11 (by decide)).2.1, (hA' 12 (by decide)).2.1]
    exact ⟨e1, e2, e3⟩
  refine ct_go (by decide +kernel) (Nat.le_of_ble_eq_true rfl) (L := [(0, .ref m), (1, .int al)]) rfl ?_
  refine xw_aload_n dX10_clear_0 rfl rfl ?_
  refine xw_iconst (v := 0) dX10_clear_1 (by decide) ?_
  refine xw_put (ci := 11) (k := 0) tyX10 dX10_clear_2 hR.1 rfl inX10 tyX10_ok nmX10 (by decide) tw_791 (Or.inl rfl) rfl rfl rfl rfl (Nat.le_of_ble_eq_true rfl) ?_
  dsimp only [flM, List.set]
  have hR1 : RW (oput M 11 m (some [.int (0), .int (ρ.1 1), .ref (B 2), .ref (B 3), .ref (B 4), .ref (B 5), .ref (B 6), .ref (B 7), .int (ρ.1 8), .int (ρ.1 9), .ref (B 10), .ref (B 11), .ref (B 12), .int (ρ.1 13), .ref (B 14), .ref (B 15), .ref (B 16), .int (ρ.1 17), .ref (B 18), .ref (B 19), .ref (B 20), .ref (B 21), .ref (B 22), .int (ρ.1 23), .ref (B 24), .ref (B 25), .ref (B 26), .ref (B 27), .int (ρ.1 28), .ref (B 29), .ref (B 30), .ref (B 31), .int (ρ.1 32), .ref (B 33), .ref (B 34), .ref (B 35), .int (ρ.1 36), .int (ρ.1 37), .int (ρ.1 38), .ref (B 39), .ref (B 40)])) m B (rS ρ 0 0) := hR.sset (k := 0) (v := 0)
  have hE1 : EF M (oput M 11 m (some [.int (0), .int (ρ.1 1), .ref (B 2), .ref (B 3), .ref (B 4), .ref (B 5), .ref (B 6), .ref (B 7), .int (ρ.1 8), .int (ρ.1 9), .ref (B 10), .ref (B 11), .ref (B 12), .int (ρ.1 13), .ref (B 14), .ref (B 15), .ref (B 16), .int (ρ.1 17), .ref (B 18), .ref (B 19), .ref (B 20), .ref (B 21), .ref (B 22), .int (ρ.1 23), .ref (B 24), .ref (B 25), .ref (B 26), .ref (B 27), .int (ρ.1 28), .ref (B 29), .ref (B 30), .ref (B 31), .int (ρ.1 32), .ref (B 33), .ref (B 34), .ref (B 35), .int (ρ.1 36), .int (ρ.1 37), .int (ρ.1 38), .ref (B 39), .ref (B 40)])) m B := (EF.rf M m B).tr EF.o
  generalize oput M 11 m (some [.int (0), .int (ρ.1 1), .ref (B 2), .ref (B 3), .ref (B 4), .ref (B 5), .ref (B 6), .ref (B 7), .int (ρ.1 8), .int (ρ.1 9), .ref (B 10), .ref (B 11), .ref (B 12), .int (ρ.1 13), .ref (B 14), .ref (B 15), .ref (B 16), .int (ρ.1 17), .ref (B 18), .ref (B 19), .ref (B 20), .ref (B 21), .ref (B 22), .int (ρ.1 23), .ref (B 24), .ref (B 25), .ref (B 26), .ref (B 27), .int (ρ.1 28), .ref (B 29), .ref (B 30), .ref (B 31), .int (ρ.1 32), .ref (B 33), .ref (B 34), .ref (B 35), .int (ρ.1 36), .int (ρ.1 37), .int (ρ.1 38), .ref (B 39), .ref (B 40)]) = M1 at hR1 hE1 ⊢
  have hA1 := (AG.rf [0, 8, 9, 13, 17, 23, 28, 32, 36, 37] ρ).s (k := 0) (v := 0) (by decide)
  refine xw_aload_n dX10_clear_5 rfl rfl ?_
  refine xw_iconst (v := 0) dX10_clear_6 (by decide) ?_
  refine xw_put (ci := 11) (k := 17) tyX10 dX10_clear_7 hR1.1 rfl inX10 tyX10_ok nmX10 (by decide) tw_808 (Or.inl rfl) rfl rfl rfl rfl (Nat.le_of_ble_eq_true rfl) ?_
  dsimp only [flM, List.set]
  have hR2 : RW (oput M1 11 m (some [.int ((rS ρ 0 0).1 0), .int ((rS ρ 0 0).1 1), .ref (B 2), .ref (B 3), .ref (B 4), .ref (B 5), .ref (B 6), .ref (B 7), .int ((rS ρ 0 0).1 8), .int ((rS ρ 0 0).1 9), .ref (B 10), .ref (B 11), .ref (B 12), .int ((rS ρ 0 0).1 13), .ref (B 14), .ref (B 15), .ref (B 16), .int (0), .ref (B 18), .ref (B 19), .ref (B 20), .ref (B 21), .ref (B 22), .int ((rS ρ 0 0).1 23), .ref (B 24), .ref (B 25), .ref (B 26), .ref (B 27), .int ((rS ρ 0 0).1 28), .ref (B 29), .ref (B 30), .ref (B 31), .int ((rS ρ 0 0).1 32), .ref (B 33), .ref (B 34), .ref (B 35), .int ((rS ρ 0 0).1 36), .int ((rS ρ 0 0).1 37), .int ((rS ρ 0 0).1 38), .ref (B 39), .ref (B 40)])) m B (rS (rS ρ 0 0) 17 0) := hR1.sset (k := 17) (v := 0)
  have hE2 : EF M (oput M1 11 m (some [.int ((rS ρ 0 0).1 0), .int ((rS ρ 0 0).1 1), .ref (B 2), .ref (B 3), .ref (B 4), .ref (B 5), .ref (B 6), .ref (B 7), .int ((rS ρ 0 0).1 8), .int ((rS ρ 0 0).1 9), .ref (B 10), .ref (B 11), .ref (B 12), .int ((rS ρ 0 0).1 13), .ref (B 14), .ref (B 15), .ref (B 16), .int (0), .ref (B 18), .ref (B 19), .ref (B 20), .ref (B 21), .ref (B 22), .int ((rS ρ 0 0).1 23), .ref (B 24), .ref (B 25), .ref (B 26), .ref (B 27), .int ((rS ρ 0 0).1 28), .ref (B 29), .ref (B 30), .ref (B 31), .int ((rS ρ 0 0).1 32), .ref (B 33), .ref (B 34), .ref (B 35), .int ((rS ρ 0 0).1 36), .int ((rS ρ 0 0).1 37), .int ((rS ρ 0 0).1 38), .ref (B 39), .ref (B 40)])) m B := hE1.tr EF.o
  generalize oput M1 11 m (some [.int ((rS ρ 0 0).1 0), .int ((rS ρ 0 0).1 1), .ref (B 2), .ref (B 3), .ref (B 4), .ref (B 5), .ref (B 6), .ref (B 7), .int ((rS ρ 0 0).1 8), .int ((rS ρ 0 0).1 9), .ref (B 10), .ref (B 11), .ref (B 12), .int ((rS ρ 0 0).1 13), .ref (B 14), .ref (B 15), .ref (B 16), .int (0), .ref (B 18), .ref (B 19), .ref (B 20), .ref (B 21), .ref (B 22), .int ((rS ρ 0 0).1 23), .ref (B 24), .ref (B 25), .ref (B 26), .ref (B 27), .int ((rS ρ 0 0).1 28), .ref (B 29), .ref (B 30), .ref (B 31), .int ((rS ρ 0 0).1 32), .ref (B 33), .ref (B 34), .ref (B 35), .int ((rS ρ 0 0).1 36), .int ((rS ρ 0 0).1 37), .int ((rS ρ 0 0).1 38), .ref (B 39), .ref (B 40)]) = M2 at hR2 hE2 ⊢
  have hA2 := hA1.s (k := 17) (v := 0) (by decide)
  obtain ⟨ρ2, hρ2⟩ : ∃ ρ2, ρ2 = rS (rS ρ 0 0) 17 0 := ⟨_, rfl⟩
  rw [← hρ2] at hR2 hA2
  have g2 : ρ2.1 0 = 0 ∧ ρ2.1 17 = 0 := by rw [hρ2]; simp [rS_1, rS_2, rS_3, rI_1, rI_2, rI_3, rJ_1, rJ_2, rJ_3]
  clear hρ2
  refine xw_aload_n dX10_clear_10 rfl rfl ?_
  refine xw_iconst (v := 0) dX10_clear_11 (by decide) ?_
  refine xw_put (ci := 11) (k := 23) tyX10 dX10_clear_12 hR2.1 rfl inX10 tyX10_ok nmX10 (by decide) tw_814 (Or.inl rfl) rfl rfl rfl rfl (Nat.le_of_ble_eq_true rfl) ?_
  dsimp only [flM, List.set]
  have hR3 : RW (oput M2 11 m (some [.int (ρ2.1 0), .int (ρ2.1 1), .ref (B 2), .ref (B 3), .ref (B 4), .ref (B 5), .ref (B 6), .ref (B 7), .int (ρ2.1 8), .int (ρ2.1 9), .ref (B 10), .ref (B 11), .ref (B 12), .int (ρ2.1 13), .ref (B 14), .ref (B 15), .ref (B 16), .int (ρ2.1 17), .ref (B 18), .ref (B 19), .ref (B 20), .ref (B 21), .ref (B 22), .int (0), .ref (B 24), .ref (B 25), .ref (B 26), .ref (B 27), .int (ρ2.1 28), .ref (B 29), .ref (B 30), .ref (B 31), .int (ρ2.1 32), .ref (B 33), .ref (B 34), .ref (B 35), .int (ρ2.1 36), .int (ρ2.1 37), .int (ρ2.1 38), .ref (B 39), .ref (B 40)])) m B (rS ρ2 23 0) := hR2.sset (k := 23) (v := 0)
  have hE3 : EF M (oput M2 11 m (some [.int (ρ2.1 0), .int (ρ2.1 1), .ref (B 2), .ref (B 3), .ref (B 4), .ref (B 5), .ref (B 6), .ref (B 7), .int (ρ2.1 8), .int (ρ2.1 9), .ref (B 10), .ref (B 11), .ref (B 12), .int (ρ2.1 13), .ref (B 14), .ref (B 15), .ref (B 16), .int (ρ2.1 17), .ref (B 18), .ref (B 19), .ref (B 20), .ref (B 21), .ref (B 22), .int (0), .ref (B 24), .ref (B 25), .ref (B 26), .ref (B 27), .int (ρ2.1 28), .ref (B 29), .ref (B 30), .ref (B 31), .int (ρ2.1 32), .ref (B 33), .ref (B 34), .ref (B 35), .int (ρ2.1 36), .int (ρ2.1 37), .int (ρ2.1 38), .ref (B 39), .ref (B 40)])) m B := hE2.tr EF.o
  generalize oput M2 11 m (some [.int (ρ2.1 0), .int (ρ2.1 1), .ref (B 2), .ref (B 3), .ref (B 4), .ref (B 5), .ref (B 6), .ref (B 7), .int (ρ2.1 8), .int (ρ2.1 9), .ref (B 10), .ref (B 11), .ref (B 12), .int (ρ2.1 13), .ref (B 14), .ref (B 15), .ref (B 16), .int (ρ2.1 17), .ref (B 18), .ref (B 19), .ref (B 20), .ref (B 21), .ref (B 22), .int (0), .ref (B 24), .ref (B 25), .ref (B 26), .ref (B 27), .int (ρ2.1 28), .ref (B 29), .ref (B 30), .ref (B 31), .int (ρ2.1 32), .ref (B 33), .ref (B 34), .ref (B 35), .int (ρ2.1 36), .int (ρ2.1 37), .int (ρ2.1 38), .ref (B 39), .ref (B 40)]) = M3 at hR3 hE3 ⊢
  have hA3 := hA2.s (k := 23) (v := 0) (by decide)
  refine xw_aload_n dX10_clear_15 rfl rfl ?_
  refine xw_iconst (v := 0) dX10_clear_16 (by decide) ?_
  refine xw_put (ci := 11) (k := 28) tyX10 dX10_clear_17 hR3.1 rfl inX10 tyX10_ok nmX10 (by decide) tw_819 (Or.inl rfl) rfl rfl rfl rfl (Nat.le_of_ble_eq_true rfl) ?_
  dsimp only [flM, List.set]
  have hR4 : RW (oput M3 11 m (some [.int ((rS ρ2 23 0).1 0), .int ((rS ρ2 23 0).1 1), .ref (B 2), .ref (B 3), .ref (B 4), .ref (B 5), .ref (B 6), .ref (B 7), .int ((rS ρ2 23 0).1 8), .int ((rS ρ2 23 0).1 9), .ref (B 10), .ref (B 11), .ref (B 12), .int ((rS ρ2 23 0).1 13), .ref (B 14), .ref (B 15), .ref (B 16), .int ((rS ρ2 23 0).1 17), .ref (B 18), .ref (B 19), .ref (B 20), .ref (B 21), .ref (B 22), .int ((rS ρ2 23 0).1 23), .ref (B 24), .ref (B 25), .ref (B 26), .ref (B 27), .int (0), .ref (B 29), .ref (B 30), .ref (B 31), .int ((rS ρ2 23 0).1 32), .ref (B 33), .ref (B 34), .ref (B 35), .int ((rS ρ2 23 0).1 36), .int ((rS ρ2 23 0).1 37), .int ((rS ρ2 23 0).1 38), .ref (B 39), .ref (B 40)])) m B (rS (rS ρ2 23 0) 28 0) := hR3.sset (k := 28) (v := 0)
  have hE4 : EF M (oput M3 11 m (some [.int ((rS ρ2 23 0).1 0), .int ((rS ρ2 23 0).1 1), .ref (B 2), .ref (B 3), .ref (B 4), .ref (B 5), .ref (B 6), .ref (B 7), .int ((rS ρ2 23 0).1 8), .int ((rS ρ2 23 0).1 9), .ref (B 10), .ref (B 11), .ref (B 12), .int ((rS ρ2 23 0).1 13), .ref (B 14), .ref (B 15), .ref (B 16), .int ((rS ρ2 23 0).1 17), .ref (B 18), .ref (B 19), .ref (B 20), .ref (B 21), .ref (B 22), .int ((rS ρ2 23 0).1 23), .ref (B 24), .ref (B 25), .ref (B 26), .ref (B 27), .int (0), .ref (B 29), .ref (B 30), .ref (B 31), .int ((rS ρ2 23 0).1 32), .ref (B 33), .ref (B 34), .ref (B 35), .int ((rS ρ2 23 0).1 36), .int ((rS ρ2 23 0).1 37), .int ((rS ρ2 23 0).1 38), .ref (B 39), .ref (B 40)])) m B := hE3.tr EF.o
  generalize oput M3 11 m (some [.int ((rS ρ2 23 0).1 0), .int ((rS ρ2 23 0).1 1), .ref (B 2), .ref (B 3), .ref (B 4), .ref (B 5), .ref (B 6), .ref (B 7), .int ((rS ρ2 23 0).1 8), .int ((rS ρ2 23 0).1 9), .ref (B 10), .ref (B 11), .ref (B 12), .int ((rS ρ2 23 0).1 13), .ref (B 14), .ref (B 15), .ref (B 16), .int ((rS ρ2 23 0).1 17), .ref (B 18), .ref (B 19), .ref (B 20), .ref (B 21), .ref (B 22), .int ((rS ρ2 23 0).1 23), .ref (B 24), .ref (B 25), .ref (B 26), .ref (B 27), .int (0), .ref (B 29), .ref (B 30), .ref (B 31), .int ((rS ρ2 23 0).1 32), .ref (B 33), .ref (B 34), .ref (B 35), .int ((rS ρ2 23 0).1 36), .int ((rS ρ2 23 0).1 37), .int ((rS ρ2 23 0).1 38), .ref (B 39), .ref (B 40)]) = M4 at hR4 hE4 ⊢
  have hA4 := hA3.s (k := 28) (v := 0) (by decide)
  obtain ⟨ρ4, hρ4⟩ : ∃ ρ4, ρ4 = rS (rS ρ2 23 0) 28 0 := ⟨_, rfl⟩
  rw [← hρ4] at hR4 hA4
  have g4 : ρ4.1 0 = 0 ∧ ρ4.1 17 = 0 ∧ ρ4.1 23 = 0 ∧ ρ4.1 28 = 0 := by rw [hρ4]; simp [rS_1, rS_2, rS_3, rI_1, rI_2, rI_3, rJ_1, rJ_2, rJ_3, g2.1, g2.2]
  clear hρ4
  refine xw_aload_n dX10_clear_20 rfl rfl ?_
  refine xw_iconst (v := 1) dX10_clear_21 (by decide) ?_
  refine xw_put (ci := 11) (k := 9) tyX10 dX10_clear_22 hR4.1 rfl inX10 tyX10_ok nmX10 (by decide) tw_800 (Or.inl rfl) rfl rfl rfl rfl (Nat.le_of_ble_eq_true rfl) ?_
  dsimp only [flM, List.set]
  have hR5 : RW (oput M4 11 m (some [.int (ρ4.1 0), .int (ρ4.1 1), .ref (B 2), .ref (B 3), .ref (B 4), .ref (B 5), .ref (B 6), .ref (B 7), .int (ρ4.1 8), .int (1), .ref (B 10), .ref (B 11), .ref (B 12), .int (ρ4.1 13), .ref (B 14), .ref (B 15), .ref (B 16), .int (ρ4.1 17), .ref (B 18), .ref (B 19), .ref (B 20), .ref (B 21), .ref (B 22), .int (ρ4.1 23), .ref (B 24), .ref (B 25), .ref (B 26), .ref (B 27), .int (ρ4.1 28), .ref (B 29), .ref (B 30), .ref (B 31), .int (ρ4.1 32), .ref (B 33), .ref (B 34), .ref (B 35), .int (ρ4.1 36), .int (ρ4.1 37), .int (ρ4.1 38), .ref (B 39), .ref (B 40)])) m B (rS ρ4 9 1) := hR4.sset (k := 9) (v := 1)
  have hE5 : EF M (oput M4 11 m (some [.int (ρ4.1 0), .int (ρ4.1 1), .ref (B 2), .ref (B 3), .ref (B 4), .ref (B 5), .ref (B 6), .ref (B 7), .int (ρ4.1 8), .int (1), .ref (B 10), .ref (B 11), .ref (B 12), .int (ρ4.1 13), .ref (B 14), .ref (B 15), .ref (B 16), .int (ρ4.1 17), .ref (B 18), .ref (B 19), .ref (B 20), .ref (B 21), .ref (B 22), .int (ρ4.1 23), .ref (B 24), .ref (B 25), .ref (B 26), .ref (B 27), .int (ρ4.1 28), .ref (B 29), .ref (B 30), .ref (B 31), .int (ρ4.1 32), .ref (B 33), .ref (B 34), .ref (B 35), .int (ρ4.1 36), .int (ρ4.1 37), .int (ρ4.1 38), .ref (B 39), .ref (B 40)])) m B := hE4.tr EF.o
  generalize oput M4 11 m (some [.int (ρ4.1 0), .int (ρ4.1 1), .ref (B 2), .ref (B 3), .ref (B 4), .ref (B 5), .ref (B 6), .ref (B 7), .int (ρ4.1 8), .int (1), .ref (B 10), .ref (B 11), .ref (B 12), .int (ρ4.1 13), .ref (B 14), .ref (B 15), .ref (B 16), .int (ρ4.1 17), .ref (B 18), .ref (B 19), .ref (B 20), .ref (B 21), .ref (B 22), .int (ρ4.1 23), .ref (B 24), .ref (B 25), .ref (B 26), .ref (B 27), .int (ρ4.1 28), .ref (B 29), .ref (B 30), .ref (B 31), .int (ρ4.1 32), .ref (B 33), .ref (B 34), .ref (B 35), .int (ρ4.1 36), .int (ρ4.1 37), .int (ρ4.1 38), .ref (B 39), .ref (B 40)]) = M5 at hR5 hE5 ⊢
  have hA5 := hA4.s (k := 9) (v := 1) (by decide)
  refine xw_aload_n dX10_clear_25 rfl rfl ?_
  refine xw_iconst (v := 0) dX10_clear_26 (by decide) ?_
  refine xw_put (ci := 11) (k := 13) tyX10 dX10_clear_27 hR5.1 rfl inX10 tyX10_ok nmX10 (by decide) tw_804 (Or.inl rfl) rfl rfl rfl rfl (Nat.le_of_ble_eq_true rfl) ?_
  dsimp only [flM, List.set]
  have hR6 : RW (oput M5 11 m (some [.int ((rS ρ4 9 1).1 0), .int ((rS ρ4 9 1).1 1), .ref (B 2), .ref (B 3), .ref (B 4), .ref (B 5), .ref (B 6), .ref (B 7), .int ((rS ρ4 9 1).1 8), .int ((rS ρ4 9 1).1 9), .ref (B 10), .ref (B 11), .ref (B 12), .int (0), .ref (B 14), .ref (B 15), .ref (B 16), .int ((rS ρ4 9 1).1 17), .ref (B 18), .ref (B 19), .ref (B 20), .ref (B 21), .ref (B 22), .int ((rS ρ4 9 1).1 23), .ref (B 24), .ref (B 25), .ref (B 26), .ref (B 27), .int ((rS ρ4 9 1).1 28), .ref (B 29), .ref (B 30), .ref (B 31), .int ((rS ρ4 9 1).1 32), .ref (B 33), .ref (B 34), .ref (B 35), .int ((rS ρ4 9 1).1 36), .int ((rS ρ4 9 1).1 37), .int ((rS ρ4 9 1).1 38), .ref (B 39), .ref (B 40)])) m B (rS (rS ρ4 9 1) 13 0) := hR5.sset (k := 13) (v := 0)
  have hE6 : EF M (oput M5 11 m (some [.int ((rS ρ4 9 1).1 0), .int ((rS ρ4 9 1).1 1), .ref (B 2), .ref (B 3), .ref (B 4), .ref (B 5), .ref (B 6), .ref (B 7), .int ((rS ρ4 9 1).1 8), .int ((rS ρ4 9 1).1 9), .ref (B 10), .ref (B 11), .ref (B 12), .int (0), .ref (B 14), .ref (B 15), .ref (B 16), .int ((rS ρ4 9 1).1 17), .ref (B 18), .ref (B 19), .ref (B 20), .ref (B 21), .ref (B 22), .int ((rS ρ4 9 1).1 23), .ref (B 24), .ref (B 25), .ref (B 26), .ref (B 27), .int ((rS ρ4 9 1).1 28), .ref (B 29), .ref (B 30), .ref (B 31), .int ((rS ρ4 9 1).1 32), .ref (B 33), .ref (B 34), .ref (B 35), .int ((rS ρ4 9 1).1 36), .int ((rS ρ4 9 1).1 37), .int ((rS ρ4 9 1).1 38), .ref (B 39), .ref (B 40)])) m B := hE5.tr EF.o
  generalize oput M5 11 m (some [.int ((rS ρ4 9 1).1 0), .int ((rS ρ4 9 1).1 1), .ref (B 2), .ref (B 3), .ref (B 4), .ref (B 5), .ref (B 6), .ref (B 7), .int ((rS ρ4 9 1).1 8), .int ((rS ρ4 9 1).1 9), .ref (B 10), .ref (B 11), .ref (B 12), .int (0), .ref (B 14), .ref (B 15), .ref (B 16), .int ((rS ρ4 9 1).1 17), .ref (B 18), .ref (B 19), .ref (B 20), .ref (B 21), .ref (B 22), .int ((rS ρ4 9 1).1 23), .ref (B 24), .ref (B 25), .ref (B 26), .ref (B 27), .int ((rS ρ4 9 1).1 28), .ref (B 29), .ref (B 30), .ref (B 31), .int ((rS ρ4 9 1).1 32), .ref (B 33), .ref (B 34), .ref (B 35), .int ((rS ρ4 9 1).1 36), .int ((rS ρ4 9 1).1 37), .int ((rS ρ4 9 1).1 38), .ref (B 39), .ref (B 40)]) = M6 at hR6 hE6 ⊢
  have hA6 := hA5.s (k := 13) (v := 0) (by decide)
  obtain ⟨ρ6, hρ6⟩ : ∃ ρ6, ρ6 = rS (rS ρ4 9 1) 13 0 := ⟨_, rfl⟩
  rw [← hρ6] at hR6 hA6
  have g6 : ρ6.1 0 = 0 ∧ ρ6.1 17 = 0 ∧ ρ6.1 23 = 0 ∧ ρ6.1 28 = 0 ∧ ρ6.1 9 = 1 ∧ ρ6.1 13 = 0 := by rw [hρ6]; simp [rS_1, rS_2, rS_3, rI_1, rI_2, rI_3, rJ_1, rJ_2, rJ_3, g4.1, g4.2.1, g4.2.2.1, g4.2.2.2]
  clear hρ6
  refine xw_aload_n dX10_clear_30 rfl rfl ?_
  refine xw_iconst (v := 0) dX10_clear_31 (by decide) ?_
  refine xw_pc (pc2 := 32) rfl ?_
  refine xw_put (ci := 11) (k := 32) tyX10 dX10_clear_32 hR6.1 rfl inX10 tyX10_ok nmX10 (by decide) tw_823 (Or.inl rfl) rfl rfl rfl rfl (Nat.le_of_ble_eq_true rfl) ?_
  dsimp only [flM, List.set]
  have hR7 : RW (oput M6 11 m (some [.int (ρ6.1 0), .int (ρ6.1 1), .ref (B 2), .ref (B 3), .ref (B 4), .ref (B 5), .ref (B 6), .ref (B 7), .int (ρ6.1 8), .int (ρ6.1 9), .ref (B 10), .ref (B 11), .ref (B 12), .int (ρ6.1 13), .ref (B 14), .ref (B 15), .ref (B 16), .int (ρ6.1 17), .ref (B 18), .ref (B 19), .ref (B 20), .ref (B 21), .ref (B 22), .int (ρ6.1 23), .ref (B 24), .ref (B 25), .ref (B 26), .ref (B 27), .int (ρ6.1 28), .ref (B 29), .ref (B 30), .ref (B 31), .int (0), .ref (B 33), .ref (B 34), .ref (B 35), .int (ρ6.1 36), .int (ρ6.1 37), .int (ρ6.1 38), .ref (B 39), .ref (B 40)])) m B (rS ρ6 32 0) := hR6.sset (k := 32) (v := 0)
  have hE7 : EF M (oput M6 11 m (some [.int (ρ6.1 0), .int (ρ6.1 1), .ref (B 2), .ref (B 3), .ref (B 4), .ref (B 5), .ref (B 6), .ref (B 7), .int (ρ6.1 8), .int (ρ6.1 9), .ref (B 10), .ref (B 11), .ref (B 12), .int (ρ6.1 13), .ref (B 14), .ref (B 15), .ref (B 16), .int (ρ6.1 17), .ref (B 18), .ref (B 19), .ref (B 20), .ref (B 21), .ref (B 22), .int (ρ6.1 23), .ref (B 24), .ref (B 25), .ref (B 26), .ref (B 27), .int (ρ6.1 28), .ref (B 29), .ref (B 30), .ref (B 31), .int (0), .ref (B 33), .ref (B 34), .ref (B 35), .int (ρ6.1 36), .int (ρ6.1 37), .int (ρ6.1 38), .ref (B 39), .ref (B 40)])) m B := hE6.tr EF.o
  generalize oput M6 11 m (some [.int (ρ6.1 0), .int (ρ6.1 1), .ref (B 2), .ref (B 3), .ref (B 4), .ref (B 5), .ref (B 6), .ref (B 7), .int (ρ6.1 8), .int (ρ6.1 9), .ref (B 10), .ref (B 11), .ref (B 12), .int (ρ6.1 13), .ref (B 14), .ref (B 15), .ref (B 16), .int (ρ6.1 17), .ref (B 18), .ref (B 19), .ref (B 20), .ref (B 21), .ref (B 22), .int (ρ6.1 23), .ref (B 24), .ref (B 25), .ref (B 26), .ref (B 27), .int (ρ6.1 28), .ref (B 29), .ref (B 30), .ref (B 31), .int (0), .ref (B 33), .ref (B 34), .ref (B 35), .int (ρ6.1 36), .int (ρ6.1 37), .int (ρ6.1 38), .ref (B 39), .ref (B 40)]) = M7 at hR7 hE7 ⊢
  have hA7 := hA6.s (k := 32) (v := 0) (by decide)
  refine xw_aload_n dX10_clear_35 rfl rfl ?_
  refine xw_iconst (v := 0) dX10_clear_36 (by decide) ?_
  refine xw_put (ci := 11) (k := 36) tyX10 dX10_clear_37 hR7.1 rfl inX10 tyX10_ok nmX10 (by decide) tw_827 (Or.inl rfl) rfl rfl rfl rfl (Nat.le_of_ble_eq_true rfl) ?_
  dsimp only [flM, List.set]
  have hR8 : RW (oput M7 11 m (some [.int ((rS ρ6 32 0).1 0), .int ((rS ρ6 32 0).1 1), .ref (B 2), .ref (B 3), .ref (B 4), .ref (B 5), .ref (B 6), .ref (B 7), .int ((rS ρ6 32 0).1 8), .int ((rS ρ6 32 0).1 9), .ref (B 10), .ref (B 11), .ref (B 12), .int ((rS ρ6 32 0).1 13), .ref (B 14), .ref (B 15), .ref (B 16), .int ((rS ρ6 32 0).1 17), .ref (B 18), .ref (B 19), .ref (B 20), .ref (B 21), .ref (B 22), .int ((rS ρ6 32 0).1 23), .ref (B 24), .ref (B 25), .ref (B 26), .ref (B 27), .int ((rS ρ6 32 0).1 28), .ref (B 29), .ref (B 30), .ref (B 31), .int ((rS ρ6 32 0).1 32), .ref (B 33), .ref (B 34), .ref (B 35), .int (0), .int ((rS ρ6 32 0).1 37), .int ((rS ρ6 32 0).1 38), .ref (B 39), .ref (B 40)])) m B (rS (rS ρ6 32 0) 36 0) := hR7.sset (k := 36) (v := 0)
  have hE8 : EF M (oput M7 11 m (some [.int ((rS ρ6 32 0).1 0), .int ((rS ρ6 32 0).1 1), .ref (B 2), .ref (B 3), .ref (B 4), .ref (B 5), .ref (B 6), .ref (B 7), .int ((rS ρ6 32 0).1 8), .int ((rS ρ6 32 0).1 9), .ref (B 10), .ref (B 11), .ref (B 12), .int ((rS ρ6 32 0).1 13), .ref (B 14), .ref (B 15), .ref (B 16), .int ((rS ρ6 32 0).1 17), .ref (B 18), .ref (B 19), .ref (B 20), .ref (B 21), .ref (B 22), .int ((rS ρ6 32 0).1 23), .ref (B 24), .ref (B 25), .ref (B 26), .ref (B 27), .int ((rS ρ6 32 0).1 28), .ref (B 29), .ref (B 30), .ref (B 31), .int ((rS ρ6 32 0).1 32), .ref (B 33), .ref (B 34), .ref (B 35), .int (0), .int ((rS ρ6 32 0).1 37), .int ((rS ρ6 32 0).1 38), .ref (B 39), .ref (B 40)])) m B := hE7.tr EF.o
  generalize oput M7 11 m (some [.int ((rS ρ6 32 0).1 0), .int ((rS ρ6 32 0).1 1), .ref (B 2), .ref (B 3), .ref (B 4), .ref (B 5), .ref (B 6), .ref (B 7), .int ((rS ρ6 32 0).1 8), .int ((rS ρ6 32 0).1 9), .ref (B 10), .ref (B 11), .ref (B 12), .int ((rS ρ6 32 0).1 13), .ref (B 14), .ref (B 15), .ref (B 16), .int ((rS ρ6 32 0).1 17), .ref (B 18), .ref (B 19), .ref (B 20), .ref (B 21), .ref (B 22), .int ((rS ρ6 32 0).1 23), .ref (B 24), .ref (B 25), .ref (B 26), .ref (B 27), .int ((rS ρ6 32 0).1 28), .ref (B 29), .ref (B 30), .ref (B 31), .int ((rS ρ6 32 0).1 32), .ref (B 33), .ref (B 34), .ref (B 35), .int (0), .int ((rS ρ6 32 0).1 37), .int ((rS ρ6 32 0).1 38), .ref (B 39), .ref (B 40)]) = M8 at hR8 hE8 ⊢
  have hA8 := hA7.s (k := 36) (v := 0) (by decide)
  obtain ⟨ρ8, hρ8⟩ : ∃ ρ8, ρ8 = rS (rS ρ6 32 0) 36 0 := ⟨_, rfl⟩
  rw [← hρ8] at hR8 hA8
  have g8 : ρ8.1 0 = 0 ∧ ρ8.1 17 = 0 ∧ ρ8.1 23 = 0 ∧ ρ8.1 28 = 0 ∧ ρ8.1 9 = 1 ∧ ρ8.1 13 = 0 ∧ ρ8.1 32 = 0 ∧ ρ8.1 36 = 0 := by rw [hρ8]; simp [rS_1, rS_2, rS_3, rI_1, rI_2, rI_3, rJ_1, rJ_2, rJ_3, g6.1, g6.2.1, g6.2.2.1, g6.2.2.2.1, g6.2.2.2.2.1, g6.2.2.2.2.2]
  clear hρ8
  refine xw_aload_n dX10_clear_40 rfl rfl ?_
  refine xw_iconst (v := 0) dX10_clear_41 (by decide) ?_
  refine xw_put (ci := 11) (k := 37) tyX10 dX10_clear_42 hR8.1 rfl inX10 tyX10_ok nmX10 (by decide) tw_828 (Or.inl rfl) rfl rfl rfl rfl (Nat.le_of_ble_eq_true rfl) ?_
  dsimp only [flM, List.set]
  have hR9 : RW (oput M8 11 m (some [.int (ρ8.1 0), .int (ρ8.1 1), .ref (B 2), .ref (B 3), .ref (B 4), .ref (B 5), .ref (B 6), .ref (B 7), .int (ρ8.1 8), .int (ρ8.1 9), .ref (B 10), .ref (B 11), .ref (B 12), .int (ρ8.1 13), .ref (B 14), .ref (B 15), .ref (B 16), .int (ρ8.1 17), .ref (B 18), .ref (B 19), .ref (B 20), .ref (B 21), .ref (B 22), .int (ρ8.1 23), .ref (B 24), .ref (B 25), .ref (B 26), .ref (B 27), .int (ρ8.1 28), .ref (B 29), .ref (B 30), .ref (B 31), .int (ρ8.1 32), .ref (B 33), .ref (B 34), .ref (B 35), .int (ρ8.1 36), .int (0), .int (ρ8.1 38), .ref (B 39), .ref (B 40)])) m B (rS ρ8 37 0) := hR8.sset (k := 37) (v := 0)
  have hE9 : EF M (oput M8 11 m (some [.int (ρ8.1 0), .int (ρ8.1 1), .ref (B 2), .ref (B 3), .ref (B 4), .ref (B 5), .ref (B 6), .ref (B 7), .int (ρ8.1 8), .int (ρ8.1 9), .ref (B 10), .ref (B 11), .ref (B 12), .int (ρ8.1 13), .ref (B 14), .ref (B 15), .ref (B 16), .int (ρ8.1 17), .ref (B 18), .ref (B 19), .ref (B 20), .ref (B 21), .ref (B 22), .int (ρ8.1 23), .ref (B 24), .ref (B 25), .ref (B 26), .ref (B 27), .int (ρ8.1 28), .ref (B 29), .ref (B 30), .ref (B 31), .int (ρ8.1 32), .ref (B 33), .ref (B 34), .ref (B 35), .int (ρ8.1 36), .int (0), .int (ρ8.1 38), .ref (B 39), .ref (B 40)])) m B := hE8.tr EF.o
  generalize oput M8 11 m (some [.int (ρ8.1 0), .int (ρ8.1 1), .ref (B 2), .ref (B 3), .ref (B 4), .ref (B 5), .ref (B 6), .ref (B 7), .int (ρ8.1 8), .int (ρ8.1 9), .ref (B 10), .ref (B 11), .ref (B 12), .int (ρ8.1 13), .ref (B 14), .ref (B 15), .ref (B 16), .int (ρ8.1 17), .ref (B 18), .ref (B 19), .ref (B 20), .ref (B 21), .ref (B 22), .int (ρ8.1 23), .ref (B 24), .ref (B 25), .ref (B 26), .ref (B 27), .int (ρ8.1 28), .ref (B 29), .ref (B 30), .ref (B 31), .int (ρ8.1 32), .ref (B 33), .ref (B 34), .ref (B 35), .int (ρ8.1 36), .int (0), .int (ρ8.1 38), .ref (B 39), .ref (B 40)]) = M9 at hR9 hE9 ⊢
  have hA9 := hA8.s (k := 37) (v := 0) (by decide)
  refine xw_aload_n dX10_clear_45 rfl rfl ?_
  refine xw_iconst (v := 0) dX10_clear_46 (by decide) ?_
  refine xw_put (ci := 11) (k := 8) tyX10 dX10_clear_47 hR9.1 rfl inX10 tyX10_ok nmX10 (by decide) tw_799 (Or.inl rfl) rfl rfl rfl rfl (Nat.le_of_ble_eq_true rfl) ?_
  dsimp only [flM, List.set]
  have hR10 : RW (oput M9 11 m (some [.int ((rS ρ8 37 0).1 0), .int ((rS ρ8 37 0).1 1), .ref (B 2), .ref (B 3), .ref (B 4), .ref (B 5), .ref (B 6), .ref (B 7), .int (0), .int ((rS ρ8 37 0).1 9), .ref (B 10), .ref (B 11), .ref (B 12), .int ((rS ρ8 37 0).1 13), .ref (B 14), .ref (B 15), .ref (B 16), .int ((rS ρ8 37 0).1 17), .ref (B 18), .ref (B 19), .ref (B 20), .ref (B 21), .ref (B 22), .int ((rS ρ8 37 0).1 23), .ref (B 24), .ref (B 25), .ref (B 26), .ref (B 27), .int ((rS ρ8 37 0).1 28), .ref (B 29), .ref (B 30), .ref (B 31), .int ((rS ρ8 37 0).1 32), .ref (B 33), .ref (B 34), .ref (B 35), .int ((rS ρ8 37 0).1 36), .int ((rS ρ8 37 0).1 37), .int ((rS ρ8 37 0).1 38), .ref (B 39), .ref (B 40)])) m B (rS (rS ρ8 37 0) 8 0) := hR9.sset (k := 8) (v := 0)
  have hE10 : EF M (oput M9 11 m (some [.int ((rS ρ8 37 0).1 0), .int ((rS ρ8 37 0).1 1), .ref (B 2), .ref (B 3), .ref (B 4), .ref (B 5), .ref (B 6), .ref (B 7), .int (0), .int ((rS ρ8 37 0).1 9), .ref (B 10), .ref (B 11), .ref (B 12), .int ((rS ρ8 37 0).1 13), .ref (B 14), .ref (B 15), .ref (B 16), .int ((rS ρ8 37 0).1 17), .ref (B 18), .ref (B 19), .ref (B 20), .ref (B 21), .ref (B 22), .int ((rS ρ8 37 0).1 23), .ref (B 24), .ref (B 25), .ref (B 26), .ref (B 27), .int ((rS ρ8 37 0).1 28), .ref (B 29), .ref (B 30), .ref (B 31), .int ((rS ρ8 37 0).1 32), .ref (B 33), .ref (B 34), .ref (B 35), .int ((rS ρ8 37 0).1 36), .int ((rS ρ8 37 0).1 37), .int ((rS ρ8 37 0).1 38), .ref (B 39), .ref (B 40)])) m B := hE9.tr EF.o
  generalize oput M9 11 m (some [.int ((rS ρ8 37 0).1 0), .int ((rS ρ8 37 0).1 1), .ref (B 2), .ref (B 3), .ref (B 4), .ref (B 5), .ref (B 6), .ref (B 7), .int (0), .int ((rS ρ8 37 0).1 9), .ref (B 10), .ref (B 11), .ref (B 12), .int ((rS ρ8 37 0).1 13), .ref (B 14), .ref (B 15), .ref (B 16), .int ((rS ρ8 37 0).1 17), .ref (B 18), .ref (B 19), .ref (B 20), .ref (B 21), .ref (B 22), .int ((rS ρ8 37 0).1 23), .ref (B 24), .ref (B 25), .ref (B 26), .ref (B 27), .int ((rS ρ8 37 0).1 28), .ref (B 29), .ref (B 30), .ref (B 31), .int ((rS ρ8 37 0).1 32), .ref (B 33), .ref (B 34), .ref (B 35), .int ((rS ρ8 37 0).1 36), .int ((rS ρ8 37 0).1 37), .int ((rS ρ8 37 0).1 38), .ref (B 39), .ref (B 40)]) = M10 at hR10 hE10 ⊢
  have hA10 := hA9.s (k := 8) (v := 0) (by decide)
  obtain ⟨ρf, hρf⟩ : ∃ ρf, ρf = rS (rS ρ8 37 0) 8 0 := ⟨_, rfl⟩
  rw [← hρf] at hR10 hA10
  have gf : ρf.1 0 = 0 ∧ ρf.1 8 = 0 ∧ ρf.1 9 = 1 ∧ ρf.1 13 = 0 ∧ ρf.1 17 = 0 ∧ ρf.1 23 = 0 ∧ ρf.1 28 = 0 ∧ ρf.1 32 = 0 ∧ ρf.1 36 = 0 ∧ ρf.1 37 = 0 := by rw [hρf]; simp [rS_1, rS_2, rS_3, rI_1, rI_2, rI_3, rJ_1, rJ_2, rJ_3, g8.1, g8.2.1, g8.2.2.1, g8.2.2.2.1, g8.2.2.2.2.1, g8.2.2.2.2.2.1, g8.2.2.2.2.2.2.1, g8.2.2.2.2.2.2.2]
  clear hρf
  refine xw_iload_n dX10_clear_50 rfl rfl ?_
  refine xw_if_eq (tgt := 59) dX10_clear_51 (by decide) (fun c1 => ?_) (fun c1 => ?_)
  · rw [if_pos c1]
    have h1 : ρf.1 1 = ρ.1 1 := (hA10 1 (by decide)).1
    refine xw_vret rfl dX10_clear_59 ⟨rfl, fin ρf (sN σ) M10 hR10 (hA10.mono (by decide)) gf ⟨by rw [h1]; exact hNd.1, fun i x hx => ?_⟩, hE10⟩
    rw [(hA10 2 (by decide)).2.1, (hA10 3 (by decide)).2.1, (hA10 4 (by decide)).2.1, (hA10 5 (by decide)).2.1, (hA10 6 (by decide)).2.1, (hA10 7 (by decide)).2.1]
    exact hNd.2 i x hx
  · rw [if_neg c1]
    have hAm : AG [0, 1, 8, 9, 13, 17, 23, 28, 32, 36, 37] ρ ρf := hA10.mono (by decide)
    refine xw_aload_n dX10_clear_54 rfl rfl ?_
    refine xw_iconst (v := 0) dX10_clear_55 (by decide) ?_
    refine xw_put (ci := 11) (k := 1) tyX10 dX10_clear_56 hR10.1 rfl inX10 tyX10_ok nmX10 (by decide) tw_792 (Or.inl rfl) rfl rfl rfl rfl (Nat.le_of_ble_eq_true rfl) ?_
    dsimp only [flM, List.set]
    have hR11 : RW (oput M10 11 m (some [.int (ρf.1 0), .int (0), .ref (B 2), .ref (B 3), .ref (B 4), .ref (B 5), .ref (B 6), .ref (B 7), .int (ρf.1 8), .int (ρf.1 9), .ref (B 10), .ref (B 11), .ref (B 12), .int (ρf.1 13), .ref (B 14), .ref (B 15), .ref (B 16), .int (ρf.1 17), .ref (B 18), .ref (B 19), .ref (B 20), .ref (B 21), .ref (B 22), .int (ρf.1 23), .ref (B 24), .ref (B 25), .ref (B 26), .ref (B 27), .int (ρf.1 28), .ref (B 29), .ref (B 30), .ref (B 31), .int (ρf.1 32), .ref (B 33), .ref (B 34), .ref (B 35), .int (ρf.1 36), .int (ρf.1 37), .int (ρf.1 38), .ref (B 39), .ref (B 40)])) m B (rS ρf 1 0) := hR10.sset (k := 1) (v := 0)
    have hE11 : EF M (oput M10 11 m (some [.int (ρf.1 0), .int (0), .ref (B 2), .ref (B 3), .ref (B 4), .ref (B 5), .ref (B 6), .ref (B 7), .int (ρf.1 8), .int (ρf.1 9), .ref (B 10), .ref (B 11), .ref (B 12), .int (ρf.1 13), .ref (B 14), .ref (B 15), .ref (B 16), .int (ρf.1 17), .ref (B 18), .ref (B 19), .ref (B 20), .ref (B 21), .ref (B 22), .int (ρf.1 23), .ref (B 24), .ref (B 25), .ref (B 26), .ref (B 27), .int (ρf.1 28), .ref (B 29), .ref (B 30), .ref (B 31), .int (ρf.1 32), .ref (B 33), .ref (B 34), .ref (B 35), .int (ρf.1 36), .int (ρf.1 37), .int (ρf.1 38), .ref (B 39), .ref (B 40)])) m B := hE10.tr EF.o
    generalize oput M10 11 m (some [.int (ρf.1 0), .int (0), .ref (B 2), .ref (B 3), .ref (B 4), .ref (B 5), .ref (B 6), .ref (B 7), .int (ρf.1 8), .int (ρf.1 9), .ref (B 10), .ref (B 11), .ref (B 12), .int (ρf.1 13), .ref (B 14), .ref (B 15), .ref (B 16), .int (ρf.1 17), .ref (B 18), .ref (B 19), .ref (B 20), .ref (B 21), .ref (B 22), .int (ρf.1 23), .ref (B 24), .ref (B 25), .ref (B 26), .ref (B 27), .int (ρf.1 28), .ref (B 29), .ref (B 30), .ref (B 31), .int (ρf.1 32), .ref (B 33), .ref (B 34), .ref (B 35), .int (ρf.1 36), .int (ρf.1 37), .int (ρf.1 38), .ref (B 39), .ref (B 40)]) = M11 at hR11 hE11 ⊢
    have hA11 := hAm.s (k := 1) (v := 0) (by decide)
    exact xw_vret rfl dX10_clear_59 ⟨rfl, fin (rS ρf 1 0) [] M11 hR11 hA11 gf ⟨by rw [rS_1, if_pos rfl]; rfl, fun i x hx => by cases hx⟩, hE11⟩
theorem ct_mnodeA {a : Int32} (h : RM M m B σ th K V) (ha : a < 0 ∨ 17 < a) : CT G 1 21 mX10_node [.ref m, .int a, .int nn] M (fun r M1 => r = some (.int 0) ∧ RM M1 m B σ 1 K V ∧ EF M M1 m B) := by
  obtain ⟨ρ, T, hR, -⟩ := id h
  have out : XW G 1 21 mX10_node [.ref m, .int a, .int nn] M (fun r M1 => r = some (.int 0) ∧ RM M1 m B σ 1 K V ∧ EF M M1 m B) M 10 [(0, .ref m), (1, .int a), (2, .int nn)] [] := by
    refine xw_aload_n dX10_node_10 rfl rfl ?_
    refine xw_iconst (v := 1) dX10_node_11 (by decide) ?_
    refine xw_callV (q2 := mX10_raise) (n2 := 1) (ci := 11) (Bs := [.int 1]) (rest := []) (ct_mraise h) dX10_node_12 rfl (o_at hR.1) rfl rfl tw_924 tw_926 tw_18 tw_47 tw_927 (by decide +kernel) rfl (Nat.le_of_ble_eq_true rfl) (Nat.le_of_ble_eq_true rfl) (Nat.le_of_ble_eq_true rfl) (fun rr M1 hr hle1 => ?_)
    obtain ⟨rfl, hR1, hE1⟩ := hr
    exact xw_iret rfl dX10_node_15 ⟨rfl, hR1, hE1⟩
  refine ct_go (by decide +kernel) (Nat.le_of_ble_eq_true rfl) (L := [(0, .ref m), (1, .int a), (2, .int nn)]) rfl ?_
  refine xw_iload_n dX10_node_0 rfl rfl ?_
  refine xw_if_lt (tgt := 10) dX10_node_1 (by decide) (fun d1 => ?_) (fun d1 => ?_)
  · exact xw_pc rfl out
  · skip
    refine xw_iload_n dX10_node_4 rfl rfl ?_
    refine xw_bipush (v := 17) dX10_node_5 (by decide) ?_
    refine xw_pc (pc2 := 7) rfl ?_
    refine xw_icmp_le (tgt := 16) dX10_node_7 (by decide) (fun zz => absurd zz (show ¬ a ≤ 17 from fun zz => ha.elim d1 (fun w => absurd zz (by rw [Int32.not_le]; exact w)))) (fun _ => ?_)
    exact xw_pc rfl out
theorem ct_mnodeB (h : RM M m B σ th K V) (hG : GS σ) (ho : o < 18) (hl : (sN σ).length = 40 ∨ sB σ ≠ 0) : CT G 1 21 mX10_node [.ref m, .int (nI o), .int nn] M (fun r M1 => r = some (.int 0) ∧ RM M1 m B σ 2 K V ∧ EF M M1 m B) := by
  obtain ⟨ρ, T, hR, h0, hAb, -⟩ := id h
  have h40 := hG.1
  have hb1 := hG.2.2.2.2.2.2.2.2.1.2.2.2.2.2
  have out : XW G 1 21 mX10_node [.ref m, .int (nI o), .int nn] M (fun r M1 => r = some (.int 0) ∧ RM M1 m B σ 2 K V ∧ EF M M1 m B) M 32 [(0, .ref m), (1, .int (nI o)), (2, .int nn)] [] := by
    refine xw_aload_n dX10_node_32 rfl rfl ?_
    refine xw_iconst (v := 2) dX10_node_33 (by decide) ?_
    refine xw_callV (q2 := mX10_raise) (n2 := 1) (ci := 11) (Bs := [.int 2]) (rest := []) (ct_mraise h) dX10_node_34 rfl (o_at hR.1) rfl rfl tw_924 tw_926 tw_18 tw_47 tw_927 (by decide +kernel) rfl (Nat.le_of_ble_eq_true rfl) (Nat.le_of_ble_eq_true rfl) (Nat.le_of_ble_eq_true rfl) (fun rr M1 hr hle1 => ?_)
    obtain ⟨rfl, hR1, hE1⟩ := hr
    exact xw_iret rfl dX10_node_37 ⟨rfl, hR1, hE1⟩
  refine ct_go (by decide +kernel) (Nat.le_of_ble_eq_true rfl) (L := [(0, .ref m), (1, .int (nI o)), (2, .int nn)]) rfl ?_
  refine xw_iload_n dX10_node_0 rfl rfl ?_
  refine xw_if_lt (tgt := 10) dX10_node_1 (by decide) (fun zz => absurd zz (nI_pos (by omega))) (fun _ => ?_)
  refine xw_iload_n dX10_node_4 rfl rfl ?_
  refine xw_bipush (v := 17) dX10_node_5 (by decide) ?_
  refine xw_icmp_le (tgt := 16) dX10_node_7 (by decide) (fun _ => ?_) (fun zz => absurd (show nI o ≤ nI 17 from nI_le (by omega) (by decide)) zz)
  refine xw_aload_n dX10_node_16 rfl rfl ?_
  refine xw_get (ci := 11) (k := 1) (v := .int (ρ.1 1)) dX10_node_17 hR.1 rfl inX10 (by decide) tw_792 (Or.inl rfl) rfl ?_
  refine xw_bipush (v := 40) dX10_node_20 (by decide) ?_
  rw [hAb.1.1]
  refine xw_icmp_eq (tgt := 32) dX10_node_22 (by decide) (fun d1 => ?_) (fun d1 => ?_)
  · exact xw_pc rfl out
  · have t1 : ¬ (sN σ).length = 40 := fun zz => d1 (by rw [zz]; rfl)
    refine xw_aload_n dX10_node_25 rfl rfl ?_
    refine xw_get (ci := 11) (k := 8) (v := .int (ρ.1 8)) dX10_node_26 hR.1 rfl inX10 (by decide) tw_799 (Or.inl rfl) rfl ?_
    rw [hAb.2.2.2.2.2.2.1]
    refine xw_if_eq (tgt := 38) dX10_node_29 (by decide) (fun zz => absurd zz (show ¬ nI (sB σ) = nI 0 from fun zz => hl.elim t1 (fun w => w ((nI_eq (by omega) (by decide)).mp zz)))) (fun _ => ?_)
    exact xw_pc rfl out
theorem ct_mnode (h : RM M m B σ th K V) (hG : GS σ) (ho : o < 18) (hl : (sN σ).length < 40) (hB : sB σ = 0) : CT G 1 21 mX10_node [.ref m, .int (nI o), .int nn] M (fun r M1 => r = some (.int (nI (sN σ).length)) ∧ RM M1 m B (addN σ o nn) 0 K V ∧ EF M M1 m B) := by
  obtain ⟨ρ, T, hR, h0, hAb, hT, hW⟩ := id h
  obtain ⟨hNd, hC, hAr, hRd, hK, hRs, hS1, hS2, hS3, hS4⟩ := id hAb
  have inl : vp_in (nI (sN σ).length) 40 := vp_in_nI hl (by decide)
  have l31 : (sN σ).length < 2 ^ 31 := by omega
  refine ct_go (by decide +kernel) (Nat.le_of_ble_eq_true rfl) (L := [(0, .ref m), (1, .int (nI o)), (2, .int nn)]) rfl ?_
  refine xw_iload_n dX10_node_0 rfl rfl ?_
  refine xw_if_lt (tgt := 10) dX10_node_1 (by decide) (fun zz => absurd zz (nI_pos (by omega))) (fun _ => ?_)
  refine xw_iload_n dX10_node_4 rfl rfl ?_
  refine xw_bipush (v := 17) dX10_node_5 (by decide) ?_
  refine xw_pc (pc2 := 7) rfl ?_
  refine xw_icmp_le (tgt := 16) dX10_node_7 (by decide) (fun _ => ?_) (fun zz => absurd (show nI o ≤ nI 17 from nI_le (by omega) (by decide)) zz)
  refine xw_aload_n dX10_node_16 rfl rfl ?_
  refine xw_get (ci := 11) (k := 1) (v := .int (ρ.1 1)) dX10_node_17 hR.1 rfl inX10 (by decide) tw_792 (Or.inl rfl) rfl ?_
  refine xw_bipush (v := 40) dX10_node_20 (by decide) ?_
  rw [hNd.1]
  refine xw_icmp_eq (tgt := 32) dX10_node_22 (by decide) (fun zz => absurd zz (show ¬ nI (sN σ).length = nI 40 from fun zz => by have := (nI_eq (by omega) (by decide)).mp zz; omega)) (fun _ => ?_)
  refine xw_aload_n dX10_node_25 rfl rfl ?_
  refine xw_get (ci := 11) (k := 8) (v := .int (ρ.1 8)) dX10_node_26 hR.1 rfl inX10 (by decide) tw_799 (Or.inl rfl) rfl ?_
  rw [hS1]
  refine xw_if_eq (tgt := 38) dX10_node_29 (by decide) (fun _ => ?_) (fun zz => absurd (show nI (sB σ) = nI 0 by rw [hB]) zz)
  refine xw_aload_n dX10_node_38 rfl rfl ?_
  refine xw_iconst (v := 0) dX10_node_39 (by decide) ?_
  refine xw_put (ci := 11) (k := 0) tyX10 dX10_node_40 hR.1 rfl inX10 tyX10_ok nmX10 (by decide) tw_791 (Or.inl rfl) rfl rfl rfl rfl (Nat.le_of_ble_eq_true rfl) ?_
  dsimp only [flM, List.set]
  have hR1 : RW (oput M 11 m (some [.int (0), .int (ρ.1 1), .ref (B 2), .ref (B 3), .ref (B 4), .ref (B 5), .ref (B 6), .ref (B 7), .int (ρ.1 8), .int (ρ.1 9), .ref (B 10), .ref (B 11), .ref (B 12), .int (ρ.1 13), .ref (B 14), .ref (B 15), .ref (B 16), .int (ρ.1 17), .ref (B 18), .ref (B 19), .ref (B 20), .ref (B 21), .ref (B 22), .int (ρ.1 23), .ref (B 24), .ref (B 25), .ref (B 26), .ref (B 27), .int (ρ.1 28), .ref (B 29), .ref (B 30), .ref (B 31), .int (ρ.1 32), .ref (B 33), .ref (B 34), .ref (B 35), .int (ρ.1 36), .int (ρ.1 37), .int (ρ.1 38), .ref (B 39), .ref (B 40)])) m B (rS ρ 0 0) := hR.sset (k := 0) (v := 0)
  have hE1 : EF M (oput M 11 m (some [.int (0), .int (ρ.1 1), .ref (B 2), .ref (B 3), .ref (B 4), .ref (B 5), .ref (B 6), .ref (B 7), .int (ρ.1 8), .int (ρ.1 9), .ref (B 10), .ref (B 11), .ref (B 12), .int (ρ.1 13), .ref (B 14), .ref (B 15), .ref (B 16), .int (ρ.1 17), .ref (B 18), .ref (B 19), .ref (B 20), .ref (B 21), .ref (B 22), .int (ρ.1 23), .ref (B 24), .ref (B 25), .ref (B 26), .ref (B 27), .int (ρ.1 28), .ref (B 29), .ref (B 30), .ref (B 31), .int (ρ.1 32), .ref (B 33), .ref (B 34), .ref (B 35), .int (ρ.1 36), .int (ρ.1 37), .int (ρ.1 38), .ref (B 39), .ref (B 40)])) m B := (EF.rf M m B).tr EF.o
  generalize oput M 11 m (some [.int (0), .int (ρ.1 1), .ref (B 2), .ref (B 3), .ref (B 4), .ref (B 5), .ref (B 6), .ref (B 7), .int (ρ.1 8), .int (ρ.1 9), .ref (B 10), .ref (B 11), .ref (B 12), .int (ρ.1 13), .ref (B 14), .ref (B 15), .ref (B 16), .int (ρ.1 17), .ref (B 18), .ref (B 19), .ref (B 20), .ref (B 21), .ref (B 22), .int (ρ.1 23), .ref (B 24), .ref (B 25), .ref (B 26), .ref (B 27), .int (ρ.1 28), .ref (B 29), .ref (B 30), .ref (B 31), .int (ρ.1 32), .ref (B 33), .ref (B 34), .ref (B 35), .int (ρ.1 36), .int (ρ.1 37), .int (ρ.1 38), .ref (B 39), .ref (B 40)]) = M1 at hR1 hE1 ⊢
  have hA1 := (AG.rf [0, 1, 2, 3, 4] ρ).s (k := 0) (v := 0) (by decide)
  refine xw_aload_n dX10_node_43 rfl rfl ?_
  refine xw_get (ci := 11) (k := 2) (v := .ref (B 2)) dX10_node_44 hR1.1 rfl inX10 (by decide) tw_793 (Or.inl rfl) rfl ?_
  refine xw_aload_n dX10_node_47 rfl rfl ?_
  refine xw_get (ci := 11) (k := 1) (v := .int ((rS ρ 0 0).1 1)) dX10_node_48 hR1.1 rfl inX10 (by decide) tw_792 (Or.inl rfl) rfl ?_
  refine xw_iload_n dX10_node_51 rfl rfl ?_
  rw [show (rS ρ 0 0).1 1 = nI (sN σ).length from hNd.1]
  refine xw_iast dX10_node_52 (hR1.2.1 2 rfl) inl ?_
  rw [nI_clamp l31]
  have hR2 : RW (iput M1 (B 2) (some (ilen 2, upd ((rS ρ 0 0).2.1 2) ((sN σ).length) (nI o)))) m B (rI (rS ρ 0 0) 2 (upd ((rS ρ 0 0).2.1 2) ((sN σ).length) (nI o))) := hR1.iset rfl
  have hE2 : EF M (iput M1 (B 2) (some (ilen 2, upd ((rS ρ 0 0).2.1 2) ((sN σ).length) (nI o)))) m B := hE1.tr (EF.i rfl)
  generalize iput M1 (B 2) (some (ilen 2, upd ((rS ρ 0 0).2.1 2) ((sN σ).length) (nI o))) = M2 at hR2 hE2 ⊢
  have hA2 := hA1.i (k := 2) (f := (upd ((rS ρ 0 0).2.1 2) ((sN σ).length) (nI o))) (by decide)
  obtain ⟨ρ2, hρ2⟩ : ∃ ρ2, ρ2 = rI (rS ρ 0 0) 2 (upd ((rS ρ 0 0).2.1 2) ((sN σ).length) (nI o)) := ⟨_, rfl⟩
  rw [← hρ2] at hR2 hA2
  have g2 : ρ2.1 0 = 0 ∧ ρ2.1 1 = ρ.1 1 ∧ ρ2.2.1 2 = upd (ρ.2.1 2) (sN σ).length (nI o) ∧ ρ2.2.1 3 = ρ.2.1 3 ∧ ρ2.2.1 4 = ρ.2.1 4 := by rw [hρ2]; simp [rS_1, rS_2, rS_3, rI_1, rI_2, rI_3, rJ_1, rJ_2, rJ_3]
  clear hρ2
  refine xw_aload_n dX10_node_53 rfl rfl ?_
  refine xw_get (ci := 11) (k := 3) (v := .ref (B 3)) dX10_node_54 hR2.1 rfl inX10 (by decide) tw_794 (Or.inl rfl) rfl ?_
  refine xw_aload_n dX10_node_57 rfl rfl ?_
  refine xw_get (ci := 11) (k := 1) (v := .int (ρ2.1 1)) dX10_node_58 hR2.1 rfl inX10 (by decide) tw_792 (Or.inl rfl) rfl ?_
  refine xw_iload_n dX10_node_61 rfl rfl ?_
  refine xw_pc (pc2 := 62) rfl ?_
  rw [show ρ2.1 1 = nI (sN σ).length by rw [g2.2.1]; exact hNd.1]
  refine xw_iast dX10_node_62 (hR2.2.1 3 rfl) inl ?_
  rw [nI_clamp l31]
  have hR3 : RW (iput M2 (B 3) (some (ilen 3, upd (ρ2.2.1 3) ((sN σ).length) nn))) m B (rI ρ2 3 (upd (ρ2.2.1 3) ((sN σ).length) nn)) := hR2.iset rfl
  have hE3 : EF M (iput M2 (B 3) (some (ilen 3, upd (ρ2.2.1 3) ((sN σ).length) nn))) m B := hE2.tr (EF.i rfl)
  generalize iput M2 (B 3) (some (ilen 3, upd (ρ2.2.1 3) ((sN σ).length) nn)) = M3 at hR3 hE3 ⊢
  have hA3 := hA2.i (k := 3) (f := (upd (ρ2.2.1 3) ((sN σ).length) nn)) (by decide)
  obtain ⟨ρ3, hρ3⟩ : ∃ ρ3, ρ3 = rI ρ2 3 (upd (ρ2.2.1 3) ((sN σ).length) nn) := ⟨_, rfl⟩
  rw [← hρ3] at hR3 hA3
  have g3 : ρ3.1 0 = 0 ∧ ρ3.1 1 = ρ.1 1 ∧ ρ3.2.1 2 = upd (ρ.2.1 2) (sN σ).length (nI o) ∧ ρ3.2.1 3 = upd (ρ.2.1 3) (sN σ).length nn ∧ ρ3.2.1 4 = ρ.2.1 4 := by rw [hρ3]; simp [rS_1, rS_2, rS_3, rI_1, rI_2, rI_3, rJ_1, rJ_2, rJ_3, g2.1, g2.2.1, g2.2.2.1, g2.2.2.2.1, g2.2.2.2.2]
  clear hρ3
  refine xw_aload_n dX10_node_63 rfl rfl ?_
  refine xw_get (ci := 11) (k := 4) (v := .ref (B 4)) dX10_node_64 hR3.1 rfl inX10 (by decide) tw_795 (Or.inl rfl) rfl ?_
  refine xw_aload_n dX10_node_67 rfl rfl ?_
  refine xw_get (ci := 11) (k := 1) (v := .int (ρ3.1 1)) dX10_node_68 hR3.1 rfl inX10 (by decide) tw_792 (Or.inl rfl) rfl ?_
  refine xw_iconst (v := 0) dX10_node_71 (by decide) ?_
  rw [show ρ3.1 1 = nI (sN σ).length by rw [g3.2.1]; exact hNd.1]
  refine xw_iast dX10_node_72 (hR3.2.1 4 rfl) inl ?_
  rw [nI_clamp l31]
  have hR4 : RW (iput M3 (B 4) (some (ilen 4, upd (ρ3.2.1 4) ((sN σ).length) 0))) m B (rI ρ3 4 (upd (ρ3.2.1 4) ((sN σ).length) 0)) := hR3.iset rfl
  have hE4 : EF M (iput M3 (B 4) (some (ilen 4, upd (ρ3.2.1 4) ((sN σ).length) 0))) m B := hE3.tr (EF.i rfl)
  generalize iput M3 (B 4) (some (ilen 4, upd (ρ3.2.1 4) ((sN σ).length) 0)) = M4 at hR4 hE4 ⊢
  have hA4 := hA3.i (k := 4) (f := (upd (ρ3.2.1 4) ((sN σ).length) 0)) (by decide)
  obtain ⟨ρ4, hρ4⟩ : ∃ ρ4, ρ4 = rI ρ3 4 (upd (ρ3.2.1 4) ((sN σ).length) 0) := ⟨_, rfl⟩
  rw [← hρ4] at hR4 hA4
  have g4 : ρ4.1 0 = 0 ∧ ρ4.1 1 = ρ.1 1 ∧ ρ4.2.1 2 = upd (ρ.2.1 2) (sN σ).length (nI o) ∧ ρ4.2.1 3 = upd (ρ.2.1 3) (sN σ).length nn ∧ ρ4.2.1 4 = upd (ρ.2.1 4) (sN σ).length 0 := by rw [hρ4]; simp [rS_1, rS_2, rS_3, rI_1, rI_2, rI_3, rJ_1, rJ_2, rJ_3, g3.1, g3.2.1, g3.2.2.1, g3.2.2.2.1, g3.2.2.2.2]
  clear hρ4
  refine xw_aload_n dX10_node_73 rfl rfl ?_
  refine xw_dup dX10_node_74 rfl ?_
  refine xw_get (ci := 11) (k := 1) (v := .int (ρ4.1 1)) dX10_node_75 hR4.1 rfl inX10 (by decide) tw_792 (Or.inl rfl) rfl ?_
  refine xw_iconst (v := 1) dX10_node_78 (by decide) ?_
  refine xw_iadd dX10_node_79 ?_
  rw [show ρ4.1 1 = nI (sN σ).length by rw [g4.2.1]; exact hNd.1, nI_1]
  refine xw_put (ci := 11) (k := 1) tyX10 dX10_node_80 hR4.1 rfl inX10 tyX10_ok nmX10 (by decide) tw_792 (Or.inl rfl) rfl rfl rfl rfl (Nat.le_of_ble_eq_true rfl) ?_
  dsimp only [flM, List.set]
  have hR5 : RW (oput M4 11 m (some [.int (ρ4.1 0), .int ((nI ((sN σ).length + 1))), .ref (B 2), .ref (B 3), .ref (B 4), .ref (B 5), .ref (B 6), .ref (B 7), .int (ρ4.1 8), .int (ρ4.1 9), .ref (B 10), .ref (B 11), .ref (B 12), .int (ρ4.1 13), .ref (B 14), .ref (B 15), .ref (B 16), .int (ρ4.1 17), .ref (B 18), .ref (B 19), .ref (B 20), .ref (B 21), .ref (B 22), .int (ρ4.1 23), .ref (B 24), .ref (B 25), .ref (B 26), .ref (B 27), .int (ρ4.1 28), .ref (B 29), .ref (B 30), .ref (B 31), .int (ρ4.1 32), .ref (B 33), .ref (B 34), .ref (B 35), .int (ρ4.1 36), .int (ρ4.1 37), .int (ρ4.1 38), .ref (B 39), .ref (B 40)])) m B (rS ρ4 1 (nI ((sN σ).length + 1))) := hR4.sset (k := 1) (v := (nI ((sN σ).length + 1)))
  have hE5 : EF M (oput M4 11 m (some [.int (ρ4.1 0), .int ((nI ((sN σ).length + 1))), .ref (B 2), .ref (B 3), .ref (B 4), .ref (B 5), .ref (B 6), .ref (B 7), .int (ρ4.1 8), .int (ρ4.1 9), .ref (B 10), .ref (B 11), .ref (B 12), .int (ρ4.1 13), .ref (B 14), .ref (B 15), .ref (B 16), .int (ρ4.1 17), .ref (B 18), .ref (B 19), .ref (B 20), .ref (B 21), .ref (B 22), .int (ρ4.1 23), .ref (B 24), .ref (B 25), .ref (B 26), .ref (B 27), .int (ρ4.1 28), .ref (B 29), .ref (B 30), .ref (B 31), .int (ρ4.1 32), .ref (B 33), .ref (B 34), .ref (B 35), .int (ρ4.1 36), .int (ρ4.1 37), .int (ρ4.1 38), .ref (B 39), .ref (B 40)])) m B := hE4.tr EF.o
  generalize oput M4 11 m (some [.int (ρ4.1 0), .int ((nI ((sN σ).length + 1))), .ref (B 2), .ref (B 3), .ref (B 4), .ref (B 5), .ref (B 6), .ref (B 7), .int (ρ4.1 8), .int (ρ4.1 9), .ref (B 10), .ref (B 11), .ref (B 12), .int (ρ4.1 13), .ref (B 14), .ref (B 15), .ref (B 16), .int (ρ4.1 17), .ref (B 18), .ref (B 19), .ref (B 20), .ref (B 21), .ref (B 22), .int (ρ4.1 23), .ref (B 24), .ref (B 25), .ref (B 26), .ref (B 27), .int (ρ4.1 28), .ref (B 29), .ref (B 30), .ref (B 31), .int (ρ4.1 32), .ref (B 33), .ref (B 34), .ref (B 35), .int (ρ4.1 36), .int (ρ4.1 37), .int (ρ4.1 38), .ref (B 39), .ref (B 40)]) = M5 at hR5 hE5 ⊢
  have hA5 := hA4.s (k := 1) (v := (nI ((sN σ).length + 1))) (by decide)
  have v1 : (rS ρ4 1 (nI ((sN σ).length + 1))).1 1 = nI ((sN σ).length + 1) := by rw [rS_1, if_pos rfl]
  refine xw_aload_n dX10_node_83 rfl rfl ?_
  refine xw_get (ci := 11) (k := 1) (v := .int ((rS ρ4 1 (nI ((sN σ).length + 1))).1 1)) dX10_node_84 hR5.1 rfl inX10 (by decide) tw_792 (Or.inl rfl) rfl ?_
  refine xw_iconst (v := 1) dX10_node_87 (by decide) ?_
  refine xw_isub dX10_node_88 ?_
  refine xw_pc (pc2 := 89) rfl ?_
  rw [v1, nI_pred]
  refine xw_iret rfl dX10_node_89 ⟨rfl, ⟨rS ρ4 1 (nI ((sN σ).length + 1)), T, hR5, ⟨by rw [rS_1, if_neg (by decide)]; exact g4.1, (hA5 39 (by decide)).2.1.trans h0.2.1, (hA5 40 (by decide)).2.2.trans h0.2.2⟩, ⟨⟨?_, fun i x hx => ?_⟩, ?_, ?_, ?_, ?_, ?_, ?_⟩, hT.ag hA5 (by decide), hW⟩, hE5⟩
  · rw [v1, len_new]
  · rw [rS_2, g4.2.2.1, g4.2.2.2.1, g4.2.2.2.2]
    have b5 := (hA5 5 (by decide)).2.1
    have b6 := (hA5 6 (by decide)).2.1
    have b7 := (hA5 7 (by decide)).2.1
    rw [rS_2] at b5 b6 b7
    rw [b5, b6, b7]
    have hx' : (sN σ ++ [(o, nn, [])])[i]? = some x := hx
    by_cases hi : i < (sN σ).length
    · rw [List.getElem?_append_left hi] at hx'
      rw [pk_un (by omega), pk_un (by omega), pk_un (by omega)]
      exact hNd.2 i x hx'
    · rw [List.getElem?_append_right (by omega)] at hx'
      have q1 := (List.getElem?_eq_some_iff.mp hx').1
      rw [List.length_singleton] at q1
      obtain rfl : i = (sN σ).length := by omega
      rw [show (sN σ).length - (sN σ).length = 0 by omega] at hx'
      cases hx'
      exact ⟨pk_us, pk_us, pk_us, (fun k e he => by cases he)⟩
  · exact hC.ag hA5 (by decide)
  · exact hAr.ag hA5 (by decide)
  · exact hRd.ag hA5 (by decide)
  · exact hK.ag hA5 (by decide)
  · exact hRs.ag hA5 (by decide)
  · exact HSc.ag (σ := σ) ⟨hS1, hS2, hS3, hS4⟩ hA5 (by decide)
end MPUB2
