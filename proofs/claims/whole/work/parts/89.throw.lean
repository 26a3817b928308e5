/-! THROWS OVER THE PURE HEAP -/
abbrev xA : String := "java/lang/IllegalArgumentException"
abbrev xS : String := "java/lang/IllegalStateException"
abbrev xN : String := "java/util/NoSuchElementException"
abbrev xUp : List String := ["java/lang/RuntimeException", "java/lang/Exception"]
def xTx : List (Nat × String) := [(60, "no such OP"), (75, "no NODE more now"), (116, "n is not 1 .. 500"), (121, "5000 have gone"), (173, "no such RESULT"), (191, "no such CONTEXT"), (206, "no such cell")]
abbrev xI (C : String) : MethodName := ⟨C, "<init>", "(Ljava/lang/String;)V"⟩
/-- words of a throw that the tables alone decide -/
def xB : List Cond := [.castable xA xA, .castable xS xS, .castable xN xN, .declares (xI "java/lang/RuntimeException"), .declares (xI "java/lang/Exception"), .declares (xI "java/lang/Throwable")]
/-- what a throw wants of the state -/
def KX (A : Nat → Prop) (U : State) : Prop :=
  vx_Zq Bundle.tN "UNASSIGNED_STACK" Bundle.steD A U U.heap ∧ vx_Zq Bundle.tN "SUPPRESSED_SENTINEL" Bundle.listD A U U.heap ∧
  (∀ w ∈ xB, va_Nw w U) ∧ va_Nc xS xA U ∧ (∀ x ∈ xTx, ∃ sa, vk_R "TokenHouse" x.1 x.2 sa U)
theorem KX.go {A : Nat → Prop} {s t : State} (h : KX A s) (hW : s.WarmedH t.vm) (hq : ∀ a : Nat, a < s.heap.size → ¬ A a → t.heap[a]? = s.heap[a]?) : KX A t := by
  obtain ⟨h1, h2, h3, h4, h5⟩ := h
  have hvm := hW.alike
  refine ⟨vx_Zq.moved hvm (h1.kept hq), vx_Zq.moved hvm (h2.kept hq), fun w hw => ?_, h4.moved hvm, fun x hx => ?_⟩
  · have z := h3 w hw
    simp only [xB, List.mem_cons, List.not_mem_nil, or_false] at hw
    rcases hw with rfl | rfl | rfl | rfl | rfl | rfl
    · exact z.warmC hW
    · exact z.warmC hW
    · exact z.warmC hW
    · exact z.warmD hW
    · exact z.warmD hW
    · exact z.warmD hW
  · obtain ⟨sa, hs⟩ := h5 x hx
    exact ⟨sa, vk_R.warm hW hs⟩
theorem xB_on : ∀ w ∈ xB, w.onTables = true := by
  intro w hw
  simp only [xB, List.mem_cons, List.not_mem_nil, or_false] at hw
  rcases hw with rfl | rfl | rfl | rfl | rfl | rfl <;> rfl
theorem xB_c {E : String} (h : E = xA ∨ E = xS ∨ E = xN) : Cond.castable E E ∈ xB := by
  rcases h with rfl | rfl | rfl <;> simp [xB]
def GX (G : hx_G) : Prop := (∀ U, gK G U → KX (gA G) U) ∧ (gL G).stackTraces = false
section XT
variable {Kx : Code → Prop} {Fx : hx_S → Option Value → List Frame → State → State → Prop} {G : hx_G} {d lo : Nat} {q : hx_M} {As : List Value} {M0 M M1 : hx_S} {P : Option Value → hx_S → Prop} {pc : Nat} {L : List (Nat × Value)} {st : List Value} {E : String}
def hx_XC (G : hx_G) (M1 : hx_S) (E : String) : String → State → State → Prop := fun E' st t => E' = E ∧ hx_Pre G M1 t ∧ va_F (gA G) st t
/-- the contract of a call that throws E -/
def CTX (G : hx_G) (d lo : Nat) (q : hx_M) (As : List Value) (M : hx_S) (E : String) (P : hx_S → Prop) : Prop :=
  Wf M → ∃ M1 : hx_S, P M1 ∧ hle M M1 ∧ Wf M1 ∧ vx_Met (gL G) q.1 (hx_w q) (hx_rm d lo M M1) (va_Pc As (fun U => hx_Pre G M U)) (fun _ _ _ _ => False) (hx_XC G M1 E) (Sz M1 - Sz M) (Sl M1 - Sl M) (gA G)
/-- the end by a throw -/
abbrev hx_T (G : hx_G) (As : List Value) (M0 : hx_S) (E : String) : hx_S → Option Value → List Frame → State → State → Prop := fun M1 _ below s => vx_MQ below (fun _ _ _ _ => False) (hx_XC G M1 E) As.toArray s (Sz M1 - Sz M0) (Sl M1 - Sl M0) (gA G)
def hx_KN : Code → Prop := fun c => ∀ x ∈ c.exceptionTable.toList, False
theorem ctx_go {P : hx_S → Prop} (hy : plainName q.1.cls = true) (hn : (lg_sl As).length ≤ q.2.2.1) (hL : lv_args 0 As = L) (h : XWg hx_KN (hx_T G As M E) G d lo q As M (fun _ => P) M 0 L []) : CTX G d lo q As M E P := by
  subst hL
  intro hwf
  obtain ⟨r, M1, hP, hle1, hwf1, h⟩ := h (hle.rf M) hwf
  refine ⟨M1, hP, hle1, hwf1, ?_⟩
  refine vx_ofW (cc := q.2.1) (maxL := q.2.2.1) (ret := q.2.2.2) hy rfl ?_
  intro p e s m args below meth c s₁ B hml hnx hv
  obtain ⟨rfl, hSh, hKS⟩ := hv
  have hl := lv_entry As (n := q.2.2.1) hn
  rw [lg_entry_eq]
  generalize (lg_sl As ++ List.replicate (q.2.2.1 - (lg_sl As).length) Slot.unset).toArray = ls at hl ⊢
  have C : hx_C G q M p s m As.toArray meth c := ⟨B.exec, B.bytes, hml, B.returns, fun w hw => atoms_spec (ws := hx_w q) B.pre w (List.mem_cons_of_mem _ hw), findClass_of_methodNamed B.named, B.notSynchronized, (name_of_methodNamed B.named B.method).1, hKS, hSh.1⟩
  have k := h p e s m below meth c C hnx s.heap [] ls hSh va_S.rf hl
  rw [Nat.sub_self, Nat.sub_self] at k
  exact k
/-- throw new E("text") -/
theorem xw_throw {ik is ic : Nat} {text : String} (hX : GX G) (hown : q.1.cls = "TokenHouse") (htx : (is, text) ∈ xTx) (hfit : Bundle.fit E = true)
    (hk : Cond.classLink q.1.cls ik E ∈ TW) (hini : Cond.initialized E ∈ TW) (hat : ∀ w ∈ vx_atS q.1.cls ic E xUp, w ∈ TW ∨ w ∈ xB)
    (d0 : decode q.2.1 pc = .ok (.new ik, 3)) (d3 : decode q.2.1 (pc + 3) = .ok (.dup, 1)) (d4 : decode q.2.1 (pc + 4) = .ok (.ldc is, 2)) (d6 : decode q.2.1 (pc + 6) = .ok (.invokespecial ic, 3)) (d9 : decode q.2.1 (pc + 9) = .ok (.athrow, 1))
    (hf : 5 < d) (hlo : (st.map fun v => v.category).sum + 82 ≤ lo) (hP : P none (grow M 6 99)) : XWg hx_KN (hx_T G As M0 E) G d lo q As M0 P M pc L st := by
  intro h0 hwf
  refine ⟨none, grow M 6 99, hP, ⟨Nat.le_succ _, Nat.le_add_right _ _⟩, hwf.grown, fun p e s m below meth c C hK H locs ls hS hV hl => ?_⟩
  have hkx := hX.1 s (ks_K C.hks)
  obtain ⟨sa, hsa⟩ := hkx.2.2.2.2 _ htx
  refine vx_throwS (own := q.1.cls) (cls := E) (text := text) (names := xUp) (ik := ik) (is := is) (ic := ic) (A := gA G) (sa := sa) C.hx C.hb hX.2 C.hown hfit (by decide) (C.hts _ hk) (C.hts _ hini) (by rw [hown]; exact hsa)
    (fun w hw => (hat w hw).elim (C.hts w) (fun e => va_Nw.use (xB_on w e) (hkx.2.2.1 w e))) ?_ hkx.1 hkx.2.1 hV (by rw [C.hml]; exact hl.1) d0 d3 d4 d6 d9 (fun x hx => absurd hx (fun z => hK x z)) ?_ ?_ ?_ ?_ C.2.2.2.2.2.2.1 ?_ hV.2.2 ?_ ?_
  · intro w hw
    unfold vx_ot
    rw [Bool.or_eq_true]
    rcases List.mem_cons.mp hw with e | hw
    · rw [e]; exact Or.inl rfl
    · rcases List.mem_cons.mp hw with e | hw
      · rw [e]; exact Or.inl rfl
      · rcases hat w hw with e | e
        · exact Or.inr (List.mem_filter.mp e).2
        · exact Or.inl (xB_on w e)
  · show 2 + 3 < d
    omega
  · show (st.map fun v => v.category).sum + (13 * (2 + 1) + 43) ≤ lo
    omega
  · show Sz M - Sz M0 + 1 ≤ Sz (grow M 6 99) - Sz M0
    rw [Sz_grow]
    have := h0.1
    omega
  · show Sl M - Sl M0 + 6 ≤ Sl (grow M 6 99) - Sl M0
    rw [Sl_grow]
    have := h0.2
    omega
  · intro t hW hz hq
    refine ⟨rfl, ⟨hS.grown hz hq, C.hks.go hW (by rw [hz]; exact Nat.le_succ_of_le hV.1) (fun a ha hn => by rw [hq a (Nat.lt_of_lt_of_le ha hV.1)]; exact hV.2.1 a ha hn)⟩, ⟨by rw [hz]; exact Nat.le_succ_of_le hV.1, fun a ha hn => by rw [hq a (Nat.lt_of_lt_of_le ha hV.1)]; exact hV.2.1 a ha hn⟩⟩
  · show Sz M - Sz M0 + 1 ≤ Sz (grow M 6 99) - Sz M0
    rw [Sz_grow]
    have := h0.1
    omega
  · show Sl M - Sl M0 + 6 ≤ Sl (grow M 6 99) - Sl M0
    rw [Sl_grow]
    have := h0.2
    omega
/-- the same, where the constructor's link has another number -/
theorem xw_throwX {ik is ic ix : Nat} {rx : ByteArray} {text : String} (hX : GX G) (hown : q.1.cls = "TokenHouse") (htx : (is, text) ∈ xTx) (hfit : Bundle.fit E = true) (x0 : decode rx 0 = .ok (.aload_n 0, 1)) (x1 : decode rx 1 = .ok (.aload_n 1, 1)) (x2 : decode rx 2 = .ok (.invokespecial ix, 3)) (x5 : decode rx 5 = .ok (.return_, 1))
    (hk : Cond.classLink q.1.cls ik E ∈ TW) (hini : Cond.initialized E ∈ TW) (hat : ∀ w ∈ vx_atX q.1.cls ic E ix rx xUp, w ∈ TW ∨ w ∈ xB)
    (d0 : decode q.2.1 pc = .ok (.new ik, 3)) (d3 : decode q.2.1 (pc + 3) = .ok (.dup, 1)) (d4 : decode q.2.1 (pc + 4) = .ok (.ldc is, 2)) (d6 : decode q.2.1 (pc + 6) = .ok (.invokespecial ic, 3)) (d9 : decode q.2.1 (pc + 9) = .ok (.athrow, 1))
    (hf : 5 < d) (hlo : (st.map fun v => v.category).sum + 82 ≤ lo) (hP : P none (grow M 6 99)) : XWg hx_KN (hx_T G As M0 E) G d lo q As M0 P M pc L st := by
  intro h0 hwf
  refine ⟨none, grow M 6 99, hP, ⟨Nat.le_succ _, Nat.le_add_right _ _⟩, hwf.grown, fun p e s m below meth c C hK H locs ls hS hV hl => ?_⟩
  have hkx := hX.1 s (ks_K C.hks)
  obtain ⟨sa, hsa⟩ := hkx.2.2.2.2 _ htx
  refine vx_throwX (rx := rx) (ix := ix) (own := q.1.cls) (cls := E) (text := text) (names := xUp) (ik := ik) (is := is) (ic := ic) (A := gA G) (sa := sa) C.hx C.hb hX.2 x0 x1 x2 x5 C.hown hfit (by decide) (C.hts _ hk) (C.hts _ hini) (by rw [hown]; exact hsa)
    (fun w hw => (hat w hw).elim (C.hts w) (fun e => va_Nw.use (xB_on w e) (hkx.2.2.1 w e))) ?_ hkx.1 hkx.2.1 hV (by rw [C.hml]; exact hl.1) d0 d3 d4 d6 d9 (fun x hx => absurd hx (fun z => hK x z)) ?_ ?_ ?_ ?_ C.2.2.2.2.2.2.1 ?_ hV.2.2 ?_ ?_
  · intro w hw
    unfold vx_ot
    rw [Bool.or_eq_true]
    rcases List.mem_cons.mp hw with e | hw
    · rw [e]; exact Or.inl rfl
    · rcases List.mem_cons.mp hw with e | hw
      · rw [e]; exact Or.inl rfl
      · rcases hat w hw with e | e
        · exact Or.inr (List.mem_filter.mp e).2
        · exact Or.inl (xB_on w e)
  · show 2 + 3 < d
    omega
  · show (st.map fun v => v.category).sum + (13 * (2 + 1) + 43) ≤ lo
    omega
  · show Sz M - Sz M0 + 1 ≤ Sz (grow M 6 99) - Sz M0
    rw [Sz_grow]
    have := h0.1
    omega
  · show Sl M - Sl M0 + 6 ≤ Sl (grow M 6 99) - Sl M0
    rw [Sl_grow]
    have := h0.2
    omega
  · intro t hW hz hq
    refine ⟨rfl, ⟨hS.grown hz hq, C.hks.go hW (by rw [hz]; exact Nat.le_succ_of_le hV.1) (fun a ha hn => by rw [hq a (Nat.lt_of_lt_of_le ha hV.1)]; exact hV.2.1 a ha hn)⟩, ⟨by rw [hz]; exact Nat.le_succ_of_le hV.1, fun a ha hn => by rw [hq a (Nat.lt_of_lt_of_le ha hV.1)]; exact hV.2.1 a ha hn⟩⟩
  · show Sz M - Sz M0 + 1 ≤ Sz (grow M 6 99) - Sz M0
    rw [Sz_grow]
    have := h0.1
    omega
  · show Sl M - Sl M0 + 6 ≤ Sl (grow M 6 99) - Sl M0
    rw [Sl_grow]
    have := h0.2
    omega
/-- a call by the receiver's class that throws E, caught here -/
theorem xw_callX {q2 : hx_M} {d2 lo2 b ci index N n2 : Nat} {Bs rest : List Value} {C : String} {T : u_T} {P2 : hx_S → Prop} {r0 : Option Value} (hct : CTX G d2 lo2 q2 (.ref b :: Bs) M E P2) (hd : decode q.2.1 pc = .ok (.invokevirtual index, 3)) (hst : st = Bs.reverse ++ .ref b :: rest)
    (hcell : ∀ H : Heap, Sh G M H → ∃ ws, va_at (gD G) vwCl (b, .inr (ci, ws)) H) (hc : vwCl[ci]? = some (C, T, N)) (hy : q2.1.cls = C) (hw1 : Cond.methodLink q.1.cls index q2.1 ∈ TW) (hw2 : Cond.instanceMethod q2.1 ∈ TW) (hw3 : Cond.selects C q2.1 q2.1 ∈ TW) (hw4 : Cond.initialized C ∈ TW) (hw5 : Cond.code q2.1 q2.2.1 q2.2.2.1 q2.2.2.2 ∈ TW)
    (hdsc : q2.1.cls ≠ "java/lang/invoke/MethodHandle" ∧ q2.1.cls ≠ "java/lang/invoke/VarHandle" ∧ (parseMethodDescriptor q2.1.desc).map (fun d => d.parameters.length) = some n2) (hn : Bs.length = n2) (hrest : (rest.map fun v => v.category).sum ≤ 8) (hfr : d2 + 1 ≤ d) (hlo : 8 + (q2.2.2.1 + 11) + lo2 ≤ lo)
    (hX : GX G) (hE : E = xA ∨ E = xS ∨ E = xN) (pre suf : List ExceptionTableEntry) (x : ExceptionTableEntry) (hK : ∀ c, Kx c → c.exceptionTable.toList = pre ++ x :: suf)
    (hpass : ∀ z ∈ pre, covers z pc = false ∨ (z.catchType ≠ 0 ∧ E = xS ∧ Cond.classLink q.1.cls z.catchType xA ∈ TW)) (hx : covers x pc = true) (h0 : x.catchType ≠ 0) (hlink : Cond.classLink q.1.cls x.catchType E ∈ TW)
    (kk : ∀ M1 : hx_S, P2 M1 → hle M M1 → P r0 M1 ∧ ∀ qa, XWg Kx Fx G d lo q As M0 (fun r M2 => r = r0 ∧ M2 = M1) M1 x.handlerPc L [.ref qa]) : XWg Kx Fx G d lo q As M0 P M pc L st := by
  intro h00 hwf
  obtain ⟨M1, hP2, hl1, hwf1, hM⟩ := hct hwf
  obtain ⟨hP, kk⟩ := kk M1 hP2 hl1
  refine ⟨r0, M1, hP, hl1, hwf1, fun p e s m below meth c C0 hKc H locs ls hS hV hl => ?_⟩
  obtain ⟨ws, hat⟩ := hcell H hS
  have hG : GoodIn TW (wsV q.1.cls index C q2.1 (hx_w q2)) := by
    intro w hw
    rcases List.mem_append.mp hw with e | e
    · have hin : w ∈ TW := by
        simp only [List.mem_cons, List.not_mem_nil, or_false] at e
        rcases e with e | e | e | e <;> (subst e; assumption)
      exact TW_good _ hin
    · exact hx_good hw5 w e
  have hz : Sz M - Sz M0 + (Sz M1 - Sz M) ≤ Sz M1 - Sz M0 := by have := h00.1; have := hl1.1; omega
  have hs : Sl M - Sl M0 + (Sl M1 - Sl M) ≤ Sl M1 - Sl M0 := by have := h00.2; have := hl1.2; omega
  have run := vx_runV (p := p) (l := gL G) (e := e) (R := hx_rm d lo M0 M1) (s := s) (m := m) (args := As.toArray) (below := below) (meth := meth) (c := c) (H := H) (locs := locs) (cells := Sz M - Sz M0) (slots := Sl M - Sl M0) (As := Bs) (rest := rest) (g := F0 m pc ls st) ⟨C0.hx, C0.hb, C0.hml, C0.hown, C0.hts0⟩ hM (cwV n2 C0.hts0 hG rfl rfl rfl ⟨hy, hdsc⟩ ⟨hfr, hlo⟩) ⟨blind _ _, va_recv C0.hK (va_P1 hat) hc (q0 := 0) rfl, fun U hU hW => ⟨rfl, by rw [hU]; exact hS, C0.hks.go hW (by rw [hU]; exact hV.1) (fun a ha hna => by rw [hU]; exact hV.2.1 a ha hna)⟩⟩ rfl hn hl.1 hst (lv_room hrest) hd ⟨hz, hs⟩
  intro T hT X
  rcases run T hT X with ⟨v, st₀, t, T', Lo, -, -, -, -, -, hq, -⟩ | ⟨qa, st₀, t, T', Lo, E', ce, h1, X', hL, e1, e2, ⟨rfl, hPre, hzz, hkk⟩, hce, hcv, hcl, stp⟩
  · exact absurd hq id
  · rw [h1] at hzz hkk
    have hV2 : va_S (gA G) s.heap T'.heap (locs ++ Lo) := ⟨by rw [e1]; exact Nat.le_trans hV.1 hzz, fun x h1 h2 => by rw [e1, hkk x (Nat.lt_of_lt_of_le h1 hV.1) h2]; exact hV.2.1 x h1 h2, fun x hx => by
      rcases List.mem_append.mp hx with h | h
      · exact hV.2.2 x h
      · exact hL x h⟩
    obtain ⟨r2, M2, ⟨rfl, rfl⟩, -, -, k⟩ := kk qa (h00.tr hl1) hwf1
    have k2 := k p e s m below meth c C0 hKc T'.heap (locs ++ Lo) ls (by rw [e1]; exact hPre.1) hV2 hl
    have hkx := hX.1 s (ks_K C0.hks)
    have e3 : Sz M - Sz M0 + (Sz M2 - Sz M) = Sz M2 - Sz M0 := by have := h00.1; have := hl1.1; omega
    have e4 : Sl M - Sl M0 + (Sl M2 - Sl M) = Sl M2 - Sl M0 := by have := h00.2; have := hl1.2; omega
    rw [e3, e4] at X'
    have w := vx_catch (own := q.1.cls) (name := E') (E := E') (pc := pc) (rest := rest) (ls := ls) C0.hown pre x suf (hK c hKc)
      (fun z hz => (hpass z hz).imp id (fun ⟨a1, a2, a3⟩ => ⟨a1, xA, C0.hts _ a3, by rw [a2]; exact hkx.2.2.2.1⟩)) hx h0 (C0.hts _ hlink) (va_Nw.use rfl (hkx.2.2.1 _ (xB_c hE))) (by rw [e1]; exact hce) hcv hcl k2
    obtain ⟨t2, a1, b1⟩ := w T' rfl X'
    exact ⟨t2, stp.trans a1, b1⟩
end XT
/-! methods with an exception table -/
section XH
variable {Kx : Code → Prop} {Fx : hx_S → Option Value → List Frame → State → State → Prop} {G : hx_G} {d lo : Nat} {q : hx_M} {hh : List (Nat × Nat × Nat × Nat)} {As : List Value} {M0 M M1 : hx_S} {P : Option Value → hx_S → Prop} {pc : Nat} {L : List (Nat × Value)} {st : List Value}
abbrev hx_ww (q : hx_M) (hh : List (Nat × Nat × Nat × Nat)) : List Cond := Cond.codeWith q.1 q.2.1 q.2.2.1 q.2.2.2 hh :: TW
def hx_KH (hh : List (Nat × Nat × Nat × Nat)) : Code → Prop := fun c => c.exceptionTable.toList = tableOf hh
def CTW (G : hx_G) (d lo : Nat) (q : hx_M) (hh : List (Nat × Nat × Nat × Nat)) (As : List Value) (M : hx_S) (P : Option Value → hx_S → Prop) : Prop :=
  Wf M → ∃ (r : Option Value) (M1 : hx_S), P r M1 ∧ hle M M1 ∧ Wf M1 ∧ Met (gL G) q.1 (hx_ww q hh) (hx_rm d lo M M1) (va_Pc As (fun U => hx_Pre G M U)) (hx_Q G M1 r) (Sz M1 - Sz M) (Sl M1 - Sl M) (gA G)
theorem ctw_go (hy : plainName q.1.cls = true) (hn : (lg_sl As).length ≤ q.2.2.1) (hL : lv_args 0 As = L) (h : XWg (hx_KH hh) (hx_R G As M) G d lo q As M P M 0 L []) : CTW G d lo q hh As M P := by
  subst hL
  intro hwf
  obtain ⟨r, M1, hP, hle1, hwf1, h⟩ := h (hle.rf M) hwf
  refine ⟨r, M1, hP, hle1, hwf1, ?_⟩
  refine va_MetW (cc := q.2.1) (maxL := q.2.2.1) (ret := q.2.2.2) (hh := hh) hy rfl ?_
  intro p e s m args below meth c s₁ B hml hv
  obtain ⟨rfl, hSh, hKS⟩ := hv
  have hl := lv_entry As (n := q.2.2.1) hn
  rw [lg_entry_eq]
  generalize (lg_sl As ++ List.replicate (q.2.2.1 - (lg_sl As).length) Slot.unset).toArray = ls at hl ⊢
  have C : hx_C G q M p s m As.toArray meth c := ⟨B.exec, B.bytes, hml, B.returns, fun w hw => atoms_spec (ws := hx_ww q hh) B.pre w (List.mem_cons_of_mem _ hw), findClass_of_methodNamed B.named, B.notSynchronized, (name_of_methodNamed B.named B.method).1, hKS, hSh.1⟩
  have ht : hx_KH hh c := vx_table (x := q.1) B (atoms_spec (ws := hx_ww q hh) B.pre _ List.mem_cons_self)
  have k := h p e s m below meth c C ht s.heap [] ls hSh va_S.rf hl
  rw [Nat.sub_self, Nat.sub_self] at k
  exact k
theorem xw_callW {q2 : hx_M} {d2 lo2 index n2 : Nat} {Bs rest : List Value} {P2 : Option Value → hx_S → Prop} (hct : CTW G d2 lo2 q2 hh Bs M P2) (hd : decode q.2.1 pc = .ok (.invokestatic index, 3)) (hst : st = Bs.reverse ++ rest)
    (hw1 : Cond.methodLink q.1.cls index q2.1 ∈ TW) (hw2 : Cond.static q2.1 ∈ TW) (hw4 : Cond.initialized q2.1.cls ∈ TW) (hw5 : Cond.codeWith q2.1 q2.2.1 q2.2.2.1 q2.2.2.2 hh ∈ TW)
    (hdsc : q2.1.cls ≠ "java/lang/invoke/MethodHandle" ∧ q2.1.cls ≠ "java/lang/invoke/VarHandle" ∧ (parseMethodDescriptor q2.1.desc).map (fun d => d.parameters.length) = some n2) (hn : Bs.length = n2) (hrest : (rest.map fun v => v.category).sum ≤ 8) (hfr : d2 + 1 ≤ d) (hlo : 8 + (q2.2.2.1 + 11) + lo2 ≤ lo)
    (kk : ∀ (r : Option Value) (M1 : hx_S), P2 r M1 → hle M M1 → XWg Kx Fx G d lo q As M0 P M1 (pc + 3) L (r.toList ++ rest)) : XWg Kx Fx G d lo q As M0 P M pc L st := by
  refine xw_wf fun hwf => ?_
  obtain ⟨r, M1, hP2, hl1, hwf1, hM⟩ := hct hwf
  refine xw_ret (rest := rest) (r := r) hwf1 hl1 (fun p e R s m below meth c k' n' C0 hR1 hR2 hz hs H locs ls hS hV hl => ?_) (kk r M1 hP2 hl1)
  have hG : GoodIn TW (va_wsS q.1.cls index q2.1 (hx_ww q2 hh)) := by
    intro w hw
    rcases List.mem_append.mp hw with e | e
    · have hin : w ∈ TW := by
        simp only [List.mem_cons, List.not_mem_nil, or_false] at e
        rcases e with e | e | e <;> (subst e; assumption)
      exact TW_good _ hin
    · rcases List.mem_cons.mp e with e | e
      · subst e
        exact TW_good _ hw5
      · exact TW_good _ e
  refine ⟨_, vx_runSW (As := Bs) (rest := rest) (g := F0 m pc ls st) ⟨C0.hx, C0.hb, C0.hml, C0.hown, C0.hts0⟩ hM (vx_cwSW n2 C0.hts0 hG rfl rfl rfl hdsc ⟨by rw [← hR1]; exact hfr, by rw [← hR2]; exact hlo⟩) ⟨blind _ _, fun U hU hW => ⟨rfl, by rw [hU]; exact hS, C0.hks.go hW (by rw [hU]; exact hV.1) (fun a ha hna => by rw [hU]; exact hV.2.1 a ha hna)⟩⟩ rfl hn hl.1 hst (lv_room hrest) hd ⟨hz, hs⟩⟩
end XH
