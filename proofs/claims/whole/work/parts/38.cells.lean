/-! THE CLASS: cells are made -/
/-- a new cell c at address a, its list behind it -/
def newc (γ : hf_S) (c a : Nat) : hf_S := wG (wkl (wcd (wro γ (fun x => if x = a then (9, c) else if x = a + 1 then (7, c) else gro γ x)) (fun d => if d = c then some a else gcd γ d)) (fun d => if d = c then a + 1 else gkl γ d)) (fun r => if r = (7, c) then [] else gG γ r)
/-- the heap then -/
def nc (M : hx_S) (nv : Nat) : hx_S := oput (nq (oput (grow M 2 2) 2 (Sz M) (some [.null, .null]))) 2 (Sz M) (some [.ref (Sz M + 1), .ref nv])
/-- an array more -/
def mkA (σ : hs_S) (n : Nat) : hs_S := uLe (uA σ (sA σ + 1)) (fun k => if k = sA σ then n else sLe σ k)
theorem GV.up {n m : Nat} {v : V2} (h : GV n v) (hm : n ≤ m) : GV m v := by
  rcases h with h | h | ⟨h1, k, h2, h3⟩
  · exact Or.inl h
  · exact Or.inr (Or.inl h)
  · exact Or.inr (Or.inr ⟨h1, k, Nat.lt_of_lt_of_le h2 hm, h3⟩)
theorem GT.more {n m k : Nat} {t : Nat → Option V2} (h : GT n k t) (hm : n ≤ m) : GT m k t := fun p v hp => ⟨(h p v hp).1, (h p v hp).2.up hm⟩
theorem GS.mkA {σ : hs_S} {n : Nat} (h : GS σ) (ha : sA σ < 40) (hn : n ≤ 8) : GS (mkA σ n) := by
  obtain ⟨h1, h2, h3, ⟨h4, h4b, h4c⟩, h5, h6, h7, h8, h9, h10⟩ := h
  have hle : sA σ ≤ sA σ + 1 := Nat.le_succ _
  refine ⟨h1, h2, h3, ⟨ha, fun k hk => ?_, fun c v hc => ⟨by have := (h4c c v hc).1; show c < 8 * (sA σ + 1); omega, (h4c c v hc).2.up hle⟩⟩, fun i c => ⟨(h5 i c).1.more hle, (h5 i c).2⟩, fun x hx => ?_, fun x hx => ?_, fun x hx => ⟨(h8 x hx).1.up hle, (h8 x hx).2⟩, h9, h10⟩
  · have hk' : k < sA σ + 1 := hk
    show (if k = sA σ then n else sLe σ k) ≤ 8
    split
    · exact hn
    · exact h4b k (by omega)
  · obtain ⟨a1, a2, a3, a4⟩ := h6 x hx
    exact ⟨a1, a2, a3.more hle, a4⟩
  · obtain ⟨a1, a2, k, i, a3, a4, a5⟩ := h7 x hx
    refine ⟨a1, a2, k, i, Nat.lt_succ_of_lt a3, ?_, a5⟩
    show i < (if k = sA σ then n else sLe σ k)
    rw [if_neg (by omega)]; exact a4
section CELLS
variable {G : hx_G} {M M1 : hx_S} {A : hA} {Γ : hG} {σ : hs_S} {γ : hf_S} {b : Nat} {v : V2}
theorem ad_r6 {r : Nat × Nat} (h : r.1 = 6) : ad A Γ γ r = nfr Γ r.2 := by unfold ad; rw [h]; rfl
theorem ad_r7 {r : Nat × Nat} (h : r.1 = 7) : ad A Γ γ r = gkl γ r.2 := by unfold ad; rw [h]; rfl
theorem Sz_nc (nv : Nat) : Sz (nc M nv) = Sz M + 2 := rfl
theorem So_nc (nv k x : Nat) : So (nc M nv) k x = if k = 2 ∧ x = Sz M then some [.ref (Sz M + 1), .ref nv] else So M k x := by
  unfold nc
  rw [So_oput, So_nq, So_oput, So_grow]
  split <;> rfl
theorem Sq_nc (nv x : Nat) : Sq (nc M nv) x = if x = Sz M + 1 then some ([], 0, 0, 0) else Sq M x := rfl
theorem ext_nc (hw : Wf M) {nv : Nat} : Ext M (nc M nv) no2 no1 no1 no1 :=
  ⟨fun k x v h _ => by rw [So_nc, if_neg (fun z => by rw [z.1, z.2, hw.nso (Nat.le_refl _)] at h; cases h)]; exact h, fun x v h _ => by rw [Sq_nc, if_neg (fun z => by rw [z, hw.nsq (Nat.le_succ _)] at h; cases h)]; exact h, fun _ _ _ h _ => h, fun _ _ h _ => h, fun _ _ h => h, by rw [Sz_nc]; omega⟩
theorem RepB.newcell {c : Nat} (h : RepB M A Γ σ γ b) (hw : Wf M) (hc : gcd γ c = none) (h320 : c < 320) (hce : sCe σ c = none) : RepB (rput (nc M (aV A)) 0 (aW A) (some (320, fun d => if d = c then some (Sz M) else gcd γ d))) A Γ σ (newc γ c (Sz M)) (b + 102) := by
  have h0 := h
  have hR := h.rero hw (ro := fun x => if x = Sz M then (9, c) else if x = Sz M + 1 then (7, c) else gro γ x) (fun x hx => by rw [if_neg (by omega), if_neg (by omega)])
  obtain ⟨k1, ⟨⟨f1, f2⟩, f3, f4, f5, f6⟩, ⟨p1, p2, p3, p4, p5, p6, p7⟩, k4, ⟨c1, ⟨c2, c3⟩, ⟨fl, c4, c5⟩, c6, c7, c8⟩, k6, k7⟩ := hR
  have e : Ext M (rput (nc M (aV A)) 0 (aW A) (some (320, fun d => if d = c then some (Sz M) else gcd γ d))) no2 no1 (fun x => x = aW A) no1 := ((ext_nc hw).mono (fun _ _ => False.elim) (fun _ => False.elim) (fun _ => False.elim) (fun _ => False.elim)).tr ext_rput
  have hAE : aE A < Sz M := by obtain ⟨cap, y, -, -, q, -⟩ := k7; exact (hw.2.2.2.2 _ _ q).2.1
  have hap : AP (rput (nc M (aV A)) 0 (aW A) (some (320, fun d => if d = c then some (Sz M) else gcd γ d))) A (gG γ (2, 0)) (gMD γ).length (sK σ).length (b + 102) := by
    have q1 := AP.one (M1 := oput (grow M 2 2) 2 (Sz M) (some [.null, .null])) (s := 2) h0.2.2.2.2.2.2 hw rfl rfl (fun _ => rfl)
    have q2 := q1.nq (Wf.newo hw (by decide)) (by show aE A < Sz M + 1; omega)
    exact q2.same rfl rfl (fun _ => rfl)
  have had : ∀ r, r ≠ (7, c) → act (sN σ).length (newc γ c (Sz M)) r → act (sN σ).length γ r ∧ ad A Γ (newc γ c (Sz M)) r = ad A Γ γ r ∧ gG (newc γ c (Sz M)) r = gG γ r := by
    intro r hr ha
    have hG : gG (newc γ c (Sz M)) r = gG γ r := if_neg hr
    rcases ha with z | z | z | ⟨z, a, hz⟩
    · exact ⟨Or.inl z, by rw [z]; rfl, hG⟩
    · exact ⟨Or.inr (Or.inl z), by rw [z]; rfl, hG⟩
    · exact ⟨Or.inr (Or.inr (Or.inl z)), (ad_r6 z.1).trans (ad_r6 z.1).symm, hG⟩
    · have hrc : r.2 ≠ c := fun q => hr (Prod.ext z q)
      have hz' : (if r.2 = c then some (Sz M) else gcd γ r.2) = some a := hz
      rw [if_neg hrc] at hz'
      refine ⟨Or.inr (Or.inr (Or.inr ⟨z, a, hz'⟩)), ?_, hG⟩
      rw [ad_r7 z, ad_r7 z]
      exact if_neg hrc
  refine ⟨(k1.ext e (fun _ => id) (fun _ => id) (fun _ => False.elim)).cg rfl rfl, ⟨⟨e.lq f1 id, f2⟩, fun r hr => ?_, fun g hg => (f4 g hg).ext e (fun _ => id) id (fun x hx hy => ?_), e.so f5 id, e.so f6 id⟩, ⟨p1, fun r hr => ?_, p3, p4, p5, fun d hd => ?_, fun d hd => ?_⟩, k4.ext e (fun _ => id) ⟨id, id, id⟩, ⟨e.so c1 id, ⟨by rw [Sr_rput, if_pos ⟨rfl, rfl⟩]; rfl, c3⟩, ⟨fl, e.2.2.2.1 _ _ c4 id, c5⟩, c6, fun d a hd => ?_, fun k i hk hi => ?_⟩, (k6.ext e (fun _ => id) (fun _ => id) (fun _ => False.elim)).cg rfl rfl, hap⟩
  · by_cases hrc : r = (7, c)
    · subst hrc
      have ha : ad A Γ (newc γ c (Sz M)) (7, c) = Sz M + 1 := if_pos rfl
      refine ⟨⟨(0, 0, 0), ?_⟩, ?_⟩
      · rw [ha]
        show Sq (nc M (aV A)) (Sz M + 1) = some (gG (newc γ c (Sz M)) (7, c), 0, 0, 0)
        rw [Sq_nc, if_pos rfl, show gG (newc γ c (Sz M)) (7, c) = [] from if_pos rfl]
      · rw [ha]
        show (if Sz M + 1 = Sz M then (9, c) else if Sz M + 1 = Sz M + 1 then (7, c) else gro γ (Sz M + 1)) = (7, c)
        rw [if_neg (by omega), if_pos rfl]
    · obtain ⟨q1, q2, q3⟩ := had r hrc hr
      obtain ⟨m1, m2⟩ := f3 r q1
      rw [q2, q3]
      exact ⟨e.lq m1 id, m2⟩
  · rw [show x = aW A from hx] at hy
    have : gro (wro γ (fun x => if x = Sz M then (9, c) else if x = Sz M + 1 then (7, c) else gro γ x)) (aW A) = (8, g) := hy
    rw [c3] at this
    cases this
  · by_cases hrc : r = (7, c)
    · rw [hrc, show gG (newc γ c (Sz M)) (7, c) = [] from if_pos rfl]
      exact ⟨List.nodup_nil, fun f hf => by cases hf⟩
    · obtain ⟨q1, q2, q3⟩ := had r hrc hr
      rw [q3]
      exact p2 r q1
  · by_cases hdc : d = c
    · rw [hdc, show gG (newc γ c (Sz M)) (7, c) = [] from if_pos rfl, p7 c hc]
      rfl
    · have hd' : ∃ a, gcd γ d = some a := by
        obtain ⟨a, ha⟩ := hd
        exact ⟨a, by rw [← ha]; exact (if_neg hdc).symm⟩
      rw [show gG (newc γ c (Sz M)) (7, d) = gG γ (7, d) from if_neg (fun z => hdc (Prod.mk.inj z).2)]
      exact p6 d hd'
  · have hd' : (if d = c then some (Sz M) else gcd γ d) = none := hd
    by_cases hdc : d = c
    · rw [if_pos hdc] at hd'; cases hd'
    · rw [if_neg hdc] at hd'; exact p7 d hd'
  · have hd' : (if d = c then some (Sz M) else gcd γ d) = some a := hd
    by_cases hdc : d = c
    · rw [if_pos hdc] at hd'
      cases hd'
      refine ⟨hdc ▸ h320, ?_, aV A, ?_, ?_⟩
      · show (if Sz M = Sz M then (9, c) else _) = (9, d)
        rw [if_pos rfl, hdc]
      · rw [So_rput, So_nc, if_pos ⟨rfl, rfl⟩]
        show some [Value.ref (Sz M + 1), Value.ref (aV A)] = some [Value.ref (if d = c then Sz M + 1 else gkl γ d), Value.ref (aV A)]
        rw [if_pos hdc]
      · rw [hdc, hce]; exact Or.inl ⟨rfl, rfl⟩
    · rw [if_neg hdc] at hd'
      obtain ⟨m1, m2, w, m3, m4⟩ := c7 d a hd'
      refine ⟨m1, m2, w, ?_, m4.ext e (fun _ => id)⟩
      show So _ 2 a = some [Value.ref (if d = c then Sz M + 1 else gkl γ d), .ref w]
      rw [if_neg hdc]
      exact e.so m3 id
  · obtain ⟨a, ha⟩ := c8 k i hk hi
    show ∃ a, (if 8 * k + i = c then some (Sz M) else gcd γ (8 * k + i)) = some a
    split
    · exact ⟨_, rfl⟩
    · exact ⟨a, ha⟩
end CELLS
