/-! THE JUDGEMENT OVER THE PURE HEAP. KS: what the tables and the statics say, carried along -/
def tabP : List Int32 := [1, 2, 2, 2, 2, 2, 1, 2, 1, 1, 1, 1, 1, 1, 1, 2, 3, 1]
def tabX : List Int32 := [0, 2, 2, 2, 2, 2, 1, 0, 0, 0, 0, 0, 0, 0, 2, 3, 3, 0]
def tabY : List Int32 := [0, 2, 2, 2, 2, 2, 0, 0, 0, 0, 0, 0, 0, 0, 0, 2, 2, 0]
def ks_T (G : hx_G) (n : String) (t : Nat) (tab : List Int32) (U : State) (H : Heap) : Prop := va_Z RX9 n "[I" (.ref t) (gA G) U H ∧ va_T .int t 18 (fun j => .int (tab.getD j 0)) (gA G) U H
def KC (G : hx_G) : Prop := ∀ s t : State, gK G s → s.WarmedH t.vm → s.heap.size ≤ t.heap.size → (∀ a : Nat, a < s.heap.size → ¬ gA G a → t.heap[a]? = s.heap[a]?) → gK G t
def KS (G : hx_G) (U : State) : Prop :=
  va_K (gD G) vwCl (gT G) U ∧ (∀ q, U.heap.size ≤ q → gA G q) ∧
  (va_AO "java/lang/Object" U ∧ va_AO "TokenHouse$Value" U ∧ va_AO "TokenHouse$Cell" U) ∧
  (va_Nw (.castable RX0 "java/lang/Object") U ∧ va_Nw (.castable RX4 "java/lang/Object") U ∧ va_Nw (.castable RX6 "java/lang/Object") U ∧ va_Nw (.castable RX7 "java/lang/Object") U) ∧
  (va_Mi "[Ljava/lang/Object;" (gM G) U ∧ va_Dc U) ∧
  (va_Z RJx4a65c "DEFAULTCAPACITY_EMPTY_ELEMENTDATA" "[Ljava/lang/Object;" (.ref (gE G)) (gA G) U U.heap ∧ va_T (.object "java/lang/Object") (gE G) 0 (fun _ => .null) (gA G) U U.heap) ∧
  ks_T G "PORTS" (gP G) tabP U U.heap ∧ ks_T G "WANTED_X" (gX G) tabX U U.heap ∧ ks_T G "WANTED_Y" (gY G) tabY U U.heap ∧ KC G ∧ gK G U
theorem ks_T.go {G : hx_G} {n : String} {t : Nat} {tab : List Int32} {u U : State} {H H1 : Heap} (hvm : u.vm.Alike U.vm) (hq : ∀ a : Nat, a < H.size → ¬ gA G a → H1[a]? = H[a]?) (h : ks_T G n t tab u H) : ks_T G n t tab U H1 := ⟨(h.1.moved hvm).kept hq, (h.2.moved hvm).kept hq⟩
theorem KS.go {G : hx_G} {s t : State} (h : KS G s) (hW : s.WarmedH t.vm) (hz : s.heap.size ≤ t.heap.size) (hq : ∀ a : Nat, a < s.heap.size → ¬ gA G a → t.heap[a]? = s.heap[a]?) : KS G t := by
  obtain ⟨h1, h2, ⟨h3, h4, h5⟩, ⟨h6, h7, h8, h9⟩, ⟨h10, h11⟩, ⟨h12, h13⟩, h14, h15, h16, h17, h18⟩ := h
  have hvm := hW.alike
  exact ⟨h1.moved hvm, fun q hq => h2 q (Nat.le_trans hz hq), ⟨h3.moved hvm, h4.moved hvm, h5.moved hvm⟩, ⟨h6.warmC hW, h7.warmC hW, h8.warmC hW, h9.warmC hW⟩, ⟨h10.moved hvm, h11.moved hvm⟩, ⟨(h12.moved hvm).kept hq, (h13.moved hvm).kept hq⟩, h14.go hvm hq, h15.go hvm hq, h16.go hvm hq, h17, h17 s t h18 hW hz hq⟩
theorem KS.same {G : hx_G} {s t : State} (h : KS G s) (hv : t.vm = s.vm) (hh : t.heap = s.heap) : KS G t := by
  obtain ⟨h1, h2, ⟨h3, h4, h5⟩, ⟨h6, h7, h8, h9⟩, ⟨h10, h11⟩, ⟨h12, h13⟩, h14, h15, h16, h17, h18⟩ := h
  have hvm : s.vm.Alike t.vm := by rw [hv]; exact Vm.Alike.refl s.vm
  have hq : ∀ a : Nat, a < s.heap.size → ¬ gA G a → t.heap[a]? = s.heap[a]? := fun a _ _ => by rw [hh]
  exact ⟨h1.moved hvm, fun q hq => h2 q (by rw [← hh]; exact hq), ⟨h3.moved hvm, h4.moved hvm, h5.moved hvm⟩, ⟨va_Nw.same rfl hv.symm h6, va_Nw.same rfl hv.symm h7, va_Nw.same rfl hv.symm h8, va_Nw.same rfl hv.symm h9⟩, ⟨h10.moved hvm, h11.moved hvm⟩, ⟨(h12.moved hvm).kept hq, (h13.moved hvm).kept hq⟩, h14.go hvm hq, h15.go hvm hq, h16.go hvm hq, h17, h17 s t h18 (by rw [hv]; exact State.WarmedH.refl s) (by rw [hh]; exact Nat.le_refl _) hq⟩
/-- a method: its name, code, locals, type -/
abbrev hx_M : Type := MethodName × ByteArray × Nat × Option FieldType
abbrev hx_w (q : hx_M) : List Cond := Cond.code q.1 q.2.1 q.2.2.1 q.2.2.2 :: TW
abbrev hx_rm (d lo : Nat) (M M1 : hx_S) : Room := { frames := d, cells := Sz M1 - Sz M, slots := Sl M1 - Sl M, locals := lo }
def hx_Pre (G : hx_G) (M : hx_S) (U : State) : Prop := Sh G M U.heap ∧ KS G U
def hx_Q (G : hx_G) (M1 : hx_S) (r : Option Value) : Array Value → State → Outcome → State → Prop := fun _ st oc t => oc = .returned r ∧ hx_Pre G M1 t ∧ va_F (gA G) st t
/-- the contract of a method at these arguments and this pure heap: it returns, and P holds of the answer and the pure heap behind it; d frames, lo words of locals are enough -/
def CT (G : hx_G) (d lo : Nat) (q : hx_M) (As : List Value) (M : hx_S) (P : Option Value → hx_S → Prop) : Prop :=
  Wf M → ∃ (r : Option Value) (M1 : hx_S), P r M1 ∧ hle M M1 ∧ Wf M1 ∧ Met (gL G) q.1 (hx_w q) (hx_rm d lo M M1) (va_Pc As (fun U => hx_Pre G M U)) (hx_Q G M1 r) (Sz M1 - Sz M) (Sl M1 - Sl M) (gA G)
def hx_C (G : hx_G) (q : hx_M) (M0 : hx_S) (p : Program) (s : State) (m : MethodId) (args : Array Value) (meth : Method) (c : Code) : Prop :=
  p.tables.exec = Jvm.exec ∧ c.code = q.2.1 ∧ c.maxLocals = q.2.2.1 ∧ meth.sig.returnType = q.2.2.2 ∧ (∀ w ∈ TW, w.before args s = true) ∧ s.vm.findClass q.1.cls = some m.cls ∧ meth.locks = false ∧ meth.name = q.1.name ∧ KS G s ∧ s.heap.size = Sz M0
/-- the walk: from pc with these locals and this stack over the pure heap M, the method (begun over M0) comes to an end Fx with P; Kx: what is known of the code -/
def XWg (Kx : Code → Prop) (Fx : hx_S → Option Value → List Frame → State → State → Prop) (G : hx_G) (d lo : Nat) (q : hx_M) (As : List Value) (M0 : hx_S) (P : Option Value → hx_S → Prop) (M : hx_S) (pc : Nat) (L : List (Nat × Value)) (st : List Value) : Prop :=
  hle M0 M → Wf M → ∃ (r : Option Value) (M1 : hx_S), P r M1 ∧ hle M M1 ∧ Wf M1 ∧
    ∀ (p : Program) (e : Env) (s : State) (m : MethodId) (below : List Frame) (meth : Method) (c : Code), hx_C G q M0 p s m As.toArray meth c → Kx c →
      ∀ (H : Heap) (locs : List Loc) (ls : Array Slot), Sh G M H → va_S (gA G) s.heap H locs → lv_has ls q.2.2.1 L →
        W p (gL G) e (hx_rm d lo M0 M1) s m As.toArray below meth c H locs (Sz M - Sz M0) (Sl M - Sl M0) (Fx M1 r below s) (F0 m pc ls st)
/-- the end by a return -/
abbrev hx_R (G : hx_G) (As : List Value) (M0 : hx_S) : hx_S → Option Value → List Frame → State → State → Prop := fun M1 r below s => MQ below (hx_Q G M1 r) As.toArray s (Sz M1 - Sz M0) (Sl M1 - Sl M0) (gA G)
def hx_K0 : Code → Prop := fun _ => True
abbrev XW (G : hx_G) (d lo : Nat) (q : hx_M) (As : List Value) (M0 : hx_S) (P : Option Value → hx_S → Prop) (M : hx_S) (pc : Nat) (L : List (Nat × Value)) (st : List Value) : Prop := XWg hx_K0 (hx_R G As M0) G d lo q As M0 P M pc L st
section XWs
variable {Kx : Code → Prop} {Fx : hx_S → Option Value → List Frame → State → State → Prop} {G : hx_G} {d lo : Nat} {q : hx_M} {As : List Value} {M0 M M2 : hx_S} {P : Option Value → hx_S → Prop} {pc pc2 : Nat} {L L2 : List (Nat × Value)} {st st2 : List Value}
/-- the contract out of the walk -/
theorem ct_of (hy : plainName q.1.cls = true) (hn : (lg_sl As).length ≤ q.2.2.1) (h : XW G d lo q As M P M 0 (lv_args 0 As) []) : CT G d lo q As M P := by
  intro hwf
  obtain ⟨r, M1, hP, hle1, hwf1, h⟩ := h (hle.rf M) hwf
  refine ⟨r, M1, hP, hle1, hwf1, ?_⟩
  refine Met.ofW (cc := q.2.1) (maxL := q.2.2.1) (ret := q.2.2.2) hy rfl ?_
  intro p e s m args below meth c s₁ B hml hv
  obtain ⟨rfl, hSh, hKS⟩ := hv
  have hl := lv_entry As (n := q.2.2.1) hn
  rw [lg_entry_eq]
  generalize (lg_sl As ++ List.replicate (q.2.2.1 - (lg_sl As).length) Slot.unset).toArray = ls at hl ⊢
  have C : hx_C G q M p s m As.toArray meth c := ⟨B.exec, B.bytes, hml, B.returns, fun w hw => atoms_spec (ws := hx_w q) B.pre w (List.mem_cons_of_mem _ hw), findClass_of_methodNamed B.named, B.notSynchronized, (name_of_methodNamed B.named B.method).1, hKS, hSh.1⟩
  have k := h p e s m below meth c C trivial s.heap [] ls hSh va_S.rf hl
  rw [Nat.sub_self, Nat.sub_self] at k
  exact k
theorem ct_mono {Pa Pb : Option Value → hx_S → Prop} (h : CT G d lo q As M Pa) (k : ∀ r M1, Pa r M1 → Pb r M1) : CT G d lo q As M Pb := by
  intro hwf
  obtain ⟨r, M1, a, b, c⟩ := h hwf
  exact ⟨r, M1, k r M1 a, b, c⟩
theorem ct_wf {Pa : Option Value → hx_S → Prop} (h : Wf M → CT G d lo q As M Pa) : CT G d lo q As M Pa := fun hwf => h hwf hwf
theorem xw_wf (h : Wf M → XWg Kx Fx G d lo q As M0 P M pc L st) : XWg Kx Fx G d lo q As M0 P M pc L st := fun h0 hwf => h hwf h0 hwf
theorem xw_le (h : hle M0 M → XWg Kx Fx G d lo q As M0 P M pc L st) : XWg Kx Fx G d lo q As M0 P M pc L st := fun h0 hwf => h h0 h0 hwf
/-- an instruction that leaves the heap alone -/
theorem xw_g (h : ∀ (p : Program) (e : Env) (R : Room) (s : State) (m : MethodId) (below : List Frame) (meth : Method) (c : Code) (Q : State → Prop) (k n : Nat), hx_C G q M0 p s m As.toArray meth c → d = R.frames → lo = R.locals →
      ∀ (H : Heap) (locs : List Loc) (ls : Array Slot), Sh G M H → va_S (gA G) s.heap H locs → lv_has ls q.2.2.1 L →
        (∀ ls2 : Array Slot, lv_has ls2 q.2.2.1 L2 → W p (gL G) e R s m As.toArray below meth c H locs k n Q (F0 m pc2 ls2 st2)) → W p (gL G) e R s m As.toArray below meth c H locs k n Q (F0 m pc ls st))
    (k : XWg Kx Fx G d lo q As M0 P M pc2 L2 st2) : XWg Kx Fx G d lo q As M0 P M pc L st := by
  intro h0 hwf
  obtain ⟨r, M1, hP, hl1, hwf1, k⟩ := k h0 hwf
  refine ⟨r, M1, hP, hl1, hwf1, fun p e s m below meth c C hK H locs ls hS hV hl => ?_⟩
  exact h p e _ s m below meth c _ _ _ C rfl rfl H locs ls hS hV hl (fun ls2 hl2 => k p e s m below meth c C hK H locs ls2 hS hV hl2)
/-- the same by the machine and the code alone -/
theorem xw_s (h : ∀ (p : Program) (e : Env) (R : Room) (s : State) (m : MethodId) (below : List Frame) (meth : Method) (c : Code) (Q : State → Prop) (k n : Nat) (H : Heap) (locs : List Loc) (ls : Array Slot), p.tables.exec = Jvm.exec → c.code = q.2.1 → lv_has ls q.2.2.1 L →
        (∀ ls2 : Array Slot, lv_has ls2 q.2.2.1 L2 → W p (gL G) e R s m As.toArray below meth c H locs k n Q (F0 m pc2 ls2 st2)) → W p (gL G) e R s m As.toArray below meth c H locs k n Q (F0 m pc ls st))
    (k : XWg Kx Fx G d lo q As M0 P M pc2 L2 st2) : XWg Kx Fx G d lo q As M0 P M pc L st :=
  xw_g (fun p e R s m below meth c Q k n C _ _ H locs ls _ _ hl kk => h p e R s m below meth c Q k n H locs ls C.1 C.2.1 hl kk) k
/-- what a local holds -/
def lk (L : List (Nat × Value)) (i : Nat) : Option Value := (L.find? (fun x => x.1 == i)).map (fun x => x.2)
theorem lk_in {L : List (Nat × Value)} {i : Nat} {v : Value} (h : lk L i = some v) : (i, v) ∈ L := by
  unfold lk at h
  cases hf : L.find? (fun x => x.1 == i) with
  | none => rw [hf] at h; cases h
  | some x =>
    rw [hf] at h
    have h1 := List.find?_some hf
    have h2 := List.mem_of_find?_eq_some hf
    simp at h h1
    rw [← h, ← h1]
    exact h2
theorem lv_lk {ls : Array Slot} {nL i : Nat} {v : Value} (h : lv_has ls nL L) (hk : lk L i = some v) : ls[i]? = some (.val v) := h.2.2 _ (lk_in hk)
/-- storing into a local -/
def st1 (L : List (Nat × Value)) (i : Nat) (v : Value) : List (Nat × Value) := (i, v) :: L.filter (fun q => !(q.1 == i) && !(q.1 + 1 == i && q.2.category == 2))
def st2l (L : List (Nat × Value)) (i : Nat) (v : Value) : List (Nat × Value) := (i, v) :: L.filter (fun q => !(q.1 == i) && (!(q.1 == i + 1) && !(q.1 + 1 == i && q.2.category == 2)))
end XWs
