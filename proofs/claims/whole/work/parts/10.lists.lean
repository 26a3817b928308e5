/-! LISTS: opened for ArrayList's own code, closed for all others -/
section LS
variable {G : hx_G} {M M1 M2 : hx_S} {H : Heap}
theorem arrV_congr (cA : ClassId) (n : Nat) {f g : Nat → Value} (h : ∀ j, j < n → f j = g j) : arrV cA n f = arrV cA n g := by
  unfold arrV
  congr 1
  apply Array.ext
  · simp
  · intro i h1 h2
    simp at h1 ⊢
    exact h i h1
/-- one heap of the machine, another look at it: each claim of the new look stands on claims of the old -/
theorem Sh.view (h : Sh G M1 H) (hw : Wf M2) (hz : Sz M2 = Sz M1)
    (ho : ∀ ci b fs, So M2 ci b = some fs → So M1 ci b = some fs ∨ (ci = 0 ∧ ∃ x, Sq M1 b = some x ∧ fs = qobj G x))
    (hi : ∀ b x, Si M2 b = some x → Si M1 b = some x) (hj : ∀ b x, Sj M2 b = some x → Sj M1 b = some x)
    (hr : ∀ k b y, Sr M2 k b = some y → Sr M1 k b = some y ∨ (k = 2 ∧ ∃ a x, Sq M1 a = some x ∧ 0 < x.2.1 ∧ b = x.2.2.1 ∧ y = (x.2.1, fun j => x.1[j]?)))
    (hq : ∀ b x, Sq M2 b = some x → Sq M1 b = some x ∨ (So M1 0 b = some (qobj G x) ∧ (0 < x.2.1 → ∃ f, Sr M1 2 x.2.2.1 = some (x.2.1, f) ∧ ∀ j, j < x.2.1 → f j = x.1[j]?))) : Sh G M2 H := by
  obtain ⟨a1, a2, a3, a4, a5, a6⟩ := h
  obtain ⟨w2, w3, w4, w5, w6⟩ := hw
  refine ⟨a1.trans hz.symm, fun ci b fs hb => ?_, fun b x hb => ?_, fun b x hb => ?_, fun k b x hb => ?_, fun b x hb => ?_⟩
  · obtain ⟨q1, q2, q3⟩ := w2 ci b fs hb
    rcases ho ci b fs hb with z | ⟨rfl, x, z1, rfl⟩
    · obtain ⟨-, -, z3, z4⟩ := a2 ci b fs z
      exact ⟨q1, q2, z3, z4⟩
    · obtain ⟨-, z3, z4, -⟩ := a6 b x z1
      exact ⟨q1, q2, z3, z4.1⟩
  · obtain ⟨-, z⟩ := a3 b x (hi b x hb)
    exact ⟨(w3 b x hb).1, z⟩
  · obtain ⟨-, z⟩ := a4 b x (hj b x hb)
    exact ⟨(w4 b x hb).1, z⟩
  · obtain ⟨q1, q2, q3⟩ := w5 k b x hb
    rcases hr k b x hb with z | ⟨rfl, a, y, z1, z2, rfl, rfl⟩
    · obtain ⟨-, -, z3, z4⟩ := a5 k b x z
      exact ⟨q1, q2, z3, z4⟩
    · obtain ⟨-, -, z4, z5⟩ := a6 a y z1
      exact ⟨q1, q2, (z5 z2).2, z4.2.2 z2⟩
  · obtain ⟨q1, q2, q3, q4⟩ := w6 b x hb
    rcases hq b x hb with z | ⟨z1, z2⟩
    · obtain ⟨-, z3, z4, z5⟩ := a6 b x z
      exact ⟨q1, z3, z4, fun e => ⟨(q4 e).1, (z5 e).2⟩⟩
    · obtain ⟨-, -, z3, z4⟩ := a2 0 b _ z1
      refine ⟨q1, z3, ⟨z4, q3, fun z => ?_⟩, fun z => ⟨(q4 z).1, ?_⟩⟩
      · obtain ⟨f, e2, e3⟩ := z2 z
        obtain ⟨-, -, z6, z7⟩ := a5 2 _ _ e2
        show H[x.2.2.1]? = _
        rw [z7]
        exact congrArg some (arrV_congr _ _ fun j hj => by show va_rf (f j) = va_rf (x.1[j]?); rw [e3 j hj])
      · obtain ⟨f, e2, e3⟩ := z2 z
        exact (a5 2 _ _ e2).2.2.1
theorem hx_ext (h1 : Sz M = Sz M1) (h2 : Sl M = Sl M1) (h3 : ∀ b, Sk M b = Sk M1 b) (h4 : ∀ c b, So M c b = So M1 c b) (h5 : ∀ b, Si M b = Si M1 b) (h6 : ∀ b, Sj M b = Sj M1 b) (h7 : ∀ c b, Sr M c b = Sr M1 c b) (h8 : ∀ b, Sq M b = Sq M1 b) : M = M1 := by
  obtain ⟨a1, a2, a3, a4, a5, a6, a7, a8⟩ := M
  obtain ⟨b1, b2, b3, b4, b5, b6, b7, b8⟩ := M1
  have e1 : a1 = b1 := h1
  have e2 : a2 = b2 := h2
  have e3 : a3 = b3 := funext h3
  have e4 : a4 = b4 := funext fun c => funext (h4 c)
  have e5 : a5 = b5 := funext h5
  have e6 : a6 = b6 := funext h6
  have e7 : a7 = b7 := funext fun c => funext (h7 c)
  have e8 : a8 = b8 := funext h8
  subst e1 e2 e3 e4 e5 e6 e7 e8
  rfl
/-- a list opened: its object and, if it has one, its data array stand for themselves -/
def qraw (G : hx_G) (M : hx_S) (a : Nat) (x : List Nat × Nat × Nat × Int32) : hx_S :=
  if x.2.1 = 0 then oput (kput (qput M a none) a 0) 0 a (some (qobj G x))
  else rput (kput (oput (kput (qput M a none) a 0) 0 a (some (qobj G x))) x.2.2.1 24) 2 x.2.2.1 (some (x.2.1, fun j => x.1[j]?))
variable {a : Nat} {x : List Nat × Nat × Nat × Int32}
theorem Sz_qraw : Sz (qraw G M a x) = Sz M := by unfold qraw; split <;> rfl
theorem Sl_qraw : Sl (qraw G M a x) = Sl M := by unfold qraw; split <;> rfl
theorem Si_qraw (b : Nat) : Si (qraw G M a x) b = Si M b := by unfold qraw; split <;> rfl
theorem Sj_qraw (b : Nat) : Sj (qraw G M a x) b = Sj M b := by unfold qraw; split <;> rfl
theorem Sq_qraw (b : Nat) : Sq (qraw G M a x) b = if b = a then none else Sq M b := by unfold qraw; split <;> rfl
theorem So_qraw (c b : Nat) : So (qraw G M a x) c b = if c = 0 ∧ b = a then some (qobj G x) else So M c b := by unfold qraw; split <;> rfl
theorem Sr_qraw (c b : Nat) : Sr (qraw G M a x) c b = if 0 < x.2.1 ∧ c = 2 ∧ b = x.2.2.1 then some (x.2.1, fun j => x.1[j]?) else Sr M c b := by
  unfold qraw
  by_cases h : x.2.1 = 0
  · rw [if_pos h, if_neg (by omega)]; rfl
  · rw [if_neg h, Sr_rput]
    by_cases h2 : c = 2 ∧ b = x.2.2.1
    · rw [if_pos h2, if_pos ⟨by omega, h2⟩]
    · rw [if_neg h2, if_neg (fun z => h2 z.2)]; rfl
theorem Sk_qraw (b : Nat) : Sk (qraw G M a x) b = if 0 < x.2.1 ∧ b = x.2.2.1 then 24 else if b = a then 0 else Sk M b := by
  unfold qraw
  by_cases h : x.2.1 = 0
  · rw [if_pos h, if_neg (by omega)]; rfl
  · rw [if_neg h, Sk_rput, Sk_kput]
    by_cases h2 : b = x.2.2.1
    · rw [if_pos h2, if_pos ⟨by omega, h2⟩]
    · rw [if_neg h2, if_neg (fun z => h2 z.2)]; rfl
theorem wf_qraw (h : Wf M) (hx : Sq M a = some x) : Wf (qraw G M a x) := by
  obtain ⟨w2, w3, w4, w5, w6⟩ := h
  obtain ⟨k1, k2, k3, k4⟩ := w6 a x hx
  have hk : ∀ b, Sk M b ≠ 50 → Sk M b ≠ 100 + a → Sk (qraw G M a x) b = Sk M b := by
    intro b h1 h2
    rw [Sk_qraw]
    rw [if_neg (fun z => h2 (by rw [z.2]; exact (k4 z.1).1)), if_neg (fun z => h1 (by rw [z]; exact k1))]
  have hkx : Sk (qraw G M a x) a = 0 := by
    rw [Sk_qraw, if_neg (fun z => ?_), if_pos rfl]
    have := (k4 z.1).1
    rw [← z.2, k1] at this
    omega
  refine ⟨fun c b fs hb => ?_, fun b y hb => ?_, fun b y hb => ?_, fun c b y hb => ?_, fun b y hb => ?_⟩
  · rw [So_qraw] at hb
    rw [Sz_qraw]
    by_cases hc : c = 0 ∧ b = a
    · obtain ⟨rfl, rfl⟩ := hc
      exact ⟨hkx, by omega, k2⟩
    · rw [if_neg hc] at hb
      obtain ⟨q1, q2, q3⟩ := w2 c b fs hb
      exact ⟨(hk b (by omega) (by omega)).trans q1, q2, q3⟩
  · rw [Si_qraw] at hb
    obtain ⟨q1, q2⟩ := w3 b y hb
    rw [Sz_qraw]
    exact ⟨(hk b (by omega) (by omega)).trans q1, q2⟩
  · rw [Sj_qraw] at hb
    obtain ⟨q1, q2⟩ := w4 b y hb
    rw [Sz_qraw]
    exact ⟨(hk b (by omega) (by omega)).trans q1, q2⟩
  · rw [Sr_qraw] at hb
    rw [Sz_qraw]
    by_cases hc : 0 < x.2.1 ∧ c = 2 ∧ b = x.2.2.1
    · obtain ⟨z1, rfl, rfl⟩ := hc
      refine ⟨?_, by omega, (k4 z1).2⟩
      rw [Sk_qraw, if_pos ⟨z1, rfl⟩]
    · rw [if_neg hc] at hb
      obtain ⟨q1, q2, q3⟩ := w5 c b y hb
      exact ⟨(hk b (by omega) (by omega)).trans q1, q2, q3⟩
  · rw [Sq_qraw] at hb
    rw [Sz_qraw]
    by_cases hc : b = a
    · rw [if_pos hc] at hb; cases hb
    · rw [if_neg hc] at hb
      obtain ⟨q1, q2, q3, q4⟩ := w6 b y hb
      have e1 : Sk (qraw G M a x) b = 50 := by
        rw [Sk_qraw, if_neg (fun z => ?_), if_neg hc, q1]
        have := (k4 z.1).1
        rw [← z.2, q1] at this
        omega
      refine ⟨e1, q2, q3, fun z => ⟨?_, (q4 z).2⟩⟩
      rw [hk _ (by rw [(q4 z).1]; omega) (by rw [(q4 z).1]; omega)]
      exact (q4 z).1
theorem sh_qraw (hw : Wf M) (hx : Sq M a = some x) (h : Sh G M H) : Sh G (qraw G M a x) H := by
  refine Sh.view h (wf_qraw hw hx) Sz_qraw (fun c b fs hb => ?_) (fun b y hb => by rw [Si_qraw] at hb; exact hb) (fun b y hb => by rw [Sj_qraw] at hb; exact hb) (fun c b y hb => ?_) (fun b y hb => ?_)
  · rw [So_qraw] at hb
    by_cases hc : c = 0 ∧ b = a
    · rw [if_pos hc] at hb
      cases hb
      exact Or.inr ⟨hc.1, x, by rw [hc.2]; exact hx, rfl⟩
    · rw [if_neg hc] at hb
      exact Or.inl hb
  · rw [Sr_qraw] at hb
    by_cases hc : 0 < x.2.1 ∧ c = 2 ∧ b = x.2.2.1
    · rw [if_pos hc] at hb
      cases hb
      exact Or.inr ⟨hc.2.1, a, x, hx, hc.1, hc.2.2, rfl⟩
    · rw [if_neg hc] at hb
      exact Or.inl hb
  · rw [Sq_qraw] at hb
    by_cases hc : b = a
    · rw [if_pos hc] at hb; cases hb
    · rw [if_neg hc] at hb
      exact Or.inl hb
/-- a list closed again -/
theorem sh_unraw (hw : Wf M) (hx : Sq M a = some x) (h : Sh G (qraw G M a x) H) : Sh G M H := by
  obtain ⟨w2, w3, w4, w5, w6⟩ := id hw
  obtain ⟨k1, k2, k3, k4⟩ := w6 a x hx
  refine Sh.view h hw Sz_qraw.symm (fun c b fs hb => ?_) (fun b y hb => by rw [Si_qraw]; exact hb) (fun b y hb => by rw [Sj_qraw]; exact hb) (fun c b y hb => ?_) (fun b y hb => ?_)
  · refine Or.inl ?_
    rw [So_qraw, if_neg (fun z => ?_)]
    · exact hb
    · have := (w2 c b fs hb).1
      rw [z.2, k1] at this
      have := (w2 c b fs hb).2.1
      omega
  · refine Or.inl ?_
    rw [Sr_qraw, if_neg (fun z => ?_)]
    · exact hb
    · have e1 := (w5 c b y hb).1
      have e2 := (w5 c b y hb).2.1
      rw [z.2.2, (k4 z.1).1] at e1
      omega
  · by_cases hc : b = a
    · subst hc
      cases hx.symm.trans hb
      refine Or.inr ⟨by rw [So_qraw, if_pos ⟨rfl, rfl⟩], fun z => ⟨_, by rw [Sr_qraw, if_pos ⟨z, rfl, rfl⟩], fun _ _ => rfl⟩⟩
    · refine Or.inl ?_
      rw [Sq_qraw, if_neg hc]
      exact hb
end LS
section LB
variable {Kx : Code → Prop} {Fx : hx_S → Option Value → List Frame → State → State → Prop} {G : hx_G} {d lo : Nat} {q : hx_M} {As : List Value} {M0 M : hx_S} {P : Option Value → hx_S → Prop} {pc pc2 : Nat} {L : List (Nat × Value)} {st : List Value}
theorem xw_pc (h : pc = pc2) (k : XWg Kx Fx G d lo q As M0 P M pc2 L st) : XWg Kx Fx G d lo q As M0 P M pc L st := h ▸ k
theorem tw_sf : Cond.sameField "java/util/ArrayList" "java/util/AbstractList" "modCount" "I" ∈ TW := tw_in 108 (by decide +kernel) (by decide +kernel)
theorem xw_open {a : Nat} {x : List Nat × Nat × Nat × Int32} (hx : Sq M a = some x) (k : XWg Kx Fx G d lo q As M0 P (qraw G M a x) pc L st) : XWg Kx Fx G d lo q As M0 P M pc L st :=
  xw_wf fun hw => xw_view (fun _ => wf_qraw hw hx) Sz_qraw Sl_qraw (fun H h => sh_qraw hw hx h) k
theorem xw_shut {a : Nat} {x : List Nat × Nat × Nat × Int32} (hw : Wf M) (hx : Sq M a = some x) (k : XWg Kx Fx G d lo q As M0 P M pc L st) : XWg Kx Fx G d lo q As M0 P (qraw G M a x) pc L st :=
  xw_view (fun _ => hw) Sz_qraw.symm Sl_qraw.symm (fun H h => sh_unraw hw hx h) k
theorem So_qself {a : Nat} {x : List Nat × Nat × Nat × Int32} : So (qraw G M a x) 0 a = some (qobj G x) := by rw [So_qraw, if_pos ⟨rfl, rfl⟩]
theorem Sr_qself {a : Nat} {x : List Nat × Nat × Nat × Int32} (h : 0 < x.2.1) : Sr (qraw G M a x) 2 x.2.2.1 = some (x.2.1, fun j => x.1[j]?) := by rw [Sr_qraw, if_pos ⟨h, rfl, rfl⟩]
/-- where a list stands there stands an object of ArrayList -/
theorem q_at {a : Nat} {x : List Nat × Nat × Nat × Int32} (hx : Sq M a = some x) : ∀ H : Heap, Sh G M H → ∃ ws, va_at (gD G) vwCl (a, .inr (0, ws)) H := fun H h => ⟨_, (h.2.2.2.2.2 a x hx).2.2.1.1⟩
theorem o_at {ci a : Nat} {fs : List Value} (hx : So M ci a = some fs) : ∀ H : Heap, Sh G M H → ∃ ws, va_at (gD G) vwCl (a, .inr (ci, ws)) H := fun H h => ⟨_, (h.2.1 ci a fs hx).2.2.2⟩
end LB
