/-! A ROW AN INSTRUCTION, OVER THE PURE HEAP: what reads, changes or makes cells -/
section XR2
variable {Kx : Code → Prop} {Fx : hx_S → Option Value → List Frame → State → State → Prop} {G : hx_G} {d lo : Nat} {q : hx_M} {As : List Value} {M0 M M2 : hx_S} {P : Option Value → hx_S → Prop} {pc pc2 : Nat} {L L2 : List (Nat × Value)} {st st2 : List Value}
theorem hx_C.hx {p : Program} {s : State} {m : MethodId} {args : Array Value} {meth : Method} {c : Code} (C : hx_C G q M0 p s m args meth c) : p.tables.exec = Jvm.exec := C.1
theorem hx_C.hb {p : Program} {s : State} {m : MethodId} {args : Array Value} {meth : Method} {c : Code} (C : hx_C G q M0 p s m args meth c) : c.code = q.2.1 := C.2.1
theorem hx_C.hml {p : Program} {s : State} {m : MethodId} {args : Array Value} {meth : Method} {c : Code} (C : hx_C G q M0 p s m args meth c) : c.maxLocals = q.2.2.1 := C.2.2.1
theorem hx_C.hts {p : Program} {s : State} {m : MethodId} {args : Array Value} {meth : Method} {c : Code} (C : hx_C G q M0 p s m args meth c) : ∀ w ∈ TW, w.before args s = true := C.2.2.2.2.1
theorem hx_C.hts0 {p : Program} {s : State} {m : MethodId} {args : Array Value} {meth : Method} {c : Code} (C : hx_C G q M0 p s m args meth c) : ∀ w ∈ TW, w.before args s = true := C.2.2.2.2.1
theorem hx_C.hown {p : Program} {s : State} {m : MethodId} {args : Array Value} {meth : Method} {c : Code} (C : hx_C G q M0 p s m args meth c) : s.vm.findClass q.1.cls = some m.cls := C.2.2.2.2.2.1
theorem hx_C.hnm {p : Program} {s : State} {m : MethodId} {args : Array Value} {meth : Method} {c : Code} (C : hx_C G q M0 p s m args meth c) : meth.name = q.1.name := C.2.2.2.2.2.2.2.1
theorem hx_C.hks {p : Program} {s : State} {m : MethodId} {args : Array Value} {meth : Method} {c : Code} (C : hx_C G q M0 p s m args meth c) : KS G s := C.2.2.2.2.2.2.2.2.1
theorem hx_C.hK {p : Program} {s : State} {m : MethodId} {args : Array Value} {meth : Method} {c : Code} (C : hx_C G q M0 p s m args meth c) : va_K (gD G) vwCl (gT G) s := C.hks.1
theorem KS.fresh {s : State} (h : KS G s) : ∀ q, s.heap.size ≤ q → gA G q := h.2.1
/-- an instruction that changes the heap, or makes dz cells of ds slots -/
theorem xw_h (hw : Wf M → Wf M2) (dz ds : Nat) (hz : Sz M2 = Sz M + dz) (hs : Sl M2 = Sl M + ds) (h : ∀ (p : Program) (e : Env) (R : Room) (s : State) (m : MethodId) (below : List Frame) (meth : Method) (c : Code) (Q : State → Prop) (k n : Nat), hx_C G q M0 p s m As.toArray meth c → d = R.frames → lo = R.locals → k + dz ≤ R.cells → n + ds ≤ R.slots →
      ∀ (H : Heap) (locs : List Loc) (ls : Array Slot), Sh G M H → va_S (gA G) s.heap H locs → lv_has ls q.2.2.1 L →
        (∀ (H2 : Heap) (locs2 : List Loc) (ls2 : Array Slot), Sh G M2 H2 → va_S (gA G) s.heap H2 locs2 → lv_has ls2 q.2.2.1 L2 → W p (gL G) e R s m As.toArray below meth c H2 locs2 (k + dz) (n + ds) Q (F0 m pc2 ls2 st2)) → W p (gL G) e R s m As.toArray below meth c H locs k n Q (F0 m pc ls st))
    (k : XWg Kx Fx G d lo q As M0 P M2 pc2 L2 st2) : XWg Kx Fx G d lo q As M0 P M pc L st := by
  intro h0 hwf
  have h02 : hle M0 M2 := ⟨by have := h0.1; omega, by have := h0.2; omega⟩
  obtain ⟨r, M1, hP, hl1, hwf1, k⟩ := k h02 (hw hwf)
  refine ⟨r, M1, hP, ⟨by have := hl1.1; omega, by have := hl1.2; omega⟩, hwf1, fun p e s m below meth c C hK H locs ls hS hV hl => ?_⟩
  have e1 : Sz M2 - Sz M0 = Sz M - Sz M0 + dz := by have := h0.1; omega
  have e2 : Sl M2 - Sl M0 = Sl M - Sl M0 + ds := by have := h0.2; omega
  refine h p e _ s m below meth c _ _ _ C rfl rfl ?_ ?_ H locs ls hS hV hl (fun H2 locs2 ls2 hS2 hV2 hl2 => ?_)
  · show Sz M - Sz M0 + dz ≤ Sz M1 - Sz M0
    have := hl1.1
    omega
  · show Sl M - Sl M0 + ds ≤ Sl M1 - Sl M0
    have := hl1.2
    omega
  · rw [← e1, ← e2]
    exact k p e s m below meth c C hK H2 locs2 ls2 hS2 hV2 hl2
theorem va_P1 {D : va_G} {cl : List vw_C} {x : Nat × va_E} {H : Heap} (h : va_at D cl x H) : va_P D cl [x] H := by
  intro k y hy
  cases k with
  | zero => cases hy; exact h
  | succ k => simp at hy
/-- the field that a link names -/
def hx_same (ref : String) (t : String × String × String × Bool) : Prop := t.1 = ref ∨ Cond.sameField ref t.1 t.2.1 t.2.2.1 ∈ TW
theorem hx_same.use {ref : String} {t : String × String × String × Bool} {args : Array Value} {s : State} (h : hx_same ref t) (hts : ∀ w ∈ TW, w.before args s = true) : ∀ x, s.fieldFound? t.1 t.2.1 t.2.2.1 = some x → s.fieldFound? ref t.2.1 t.2.2.1 = some x := by
  rcases h with h | h
  · intro x hx
    rw [← h]
    exact hx
  · exact fun x hx => u_same (hts _ h) x hx
theorem xw_get {ci a k index N : Nat} {fs : List Value} {v : Value} {C ref : String} {T : u_T} (hd : decode q.2.1 pc = .ok (.getfield index, 3)) (h : So M ci a = some fs) (hc : vwCl[ci]? = some (C, T, N)) (hin : ∀ w ∈ u_ws C T N, w ∈ TW) (hk : k < N) (hw : Cond.fieldLink q.1.cls index ref (T k).2.1 (T k).2.2.1 ∈ TW) (hsm : hx_same ref (T k)) (hv : fs[k]? = some v)
    (kk : XWg Kx Fx G d lo q As M0 P M (pc + 3) L (v :: st)) : XWg Kx Fx G d lo q As M0 P M pc L (.ref a :: st) :=
  xw_g (fun p e R s m below meth c Q k' n C hR1 hR2 H locs ls hS hV hl kk => va_get (ws := [(a, .inr (ci, fs))]) C.hx C.hb C.hts hin C.hown C.hK (va_P1 (hS.2.1 ci a fs h).2.2.2) 0 rfl hc k hk (C.hts _ hw) (hsm.use C.hts) hv hd (kk ls hl)) kk
theorem xw_put {ci a k index N : Nat} {fs : List Value} {v : Value} {C ref : String} {T : u_T} {ty : FieldType} (ty0 : Nat → FieldType) (hd : decode q.2.1 pc = .ok (.putfield index, 3)) (h : So M ci a = some fs) (hc : vwCl[ci]? = some (C, T, N)) (hin : ∀ w ∈ u_ws C T N, w ∈ TW) (hty : ∀ k, k < N → parseFieldDescriptor (T k).2.2.1 = some (ty0 k)) (hnm : ∀ a, a < N → ∀ b, b < N → a ≠ b → (T a).2.1 ≠ (T b).2.1) (hk : k < N)
    (hw : Cond.fieldLink q.1.cls index ref (T k).2.1 (T k).2.2.1 ∈ TW) (hsm : hx_same ref (T k)) (hfin : (T k).2.2.2 = false) (ht : ty0 k = ty) (hn : narrow ty v = v) (hfit : fits ty v = true) (hlen : k < fs.length)
    (kk : XWg Kx Fx G d lo q As M0 P (oput M ci a (some (fs.set k v))) (pc + 3) L st) : XWg Kx Fx G d lo q As M0 P M pc L (v :: .ref a :: st) := by
  refine xw_h (M2 := oput M ci a (some (fs.set k v))) (fun hwf => Wf.oset hwf h) 0 0 rfl rfl (fun p e R s m below meth c Q k' n C0 hR1 hR2 hz hs H locs ls hS hV hl kk => ?_) kk
  have hK := C0.hK
  have hts := C0.hts
  have hd1 : parseFieldDescriptor (T k).2.2.1 = some ty := by rw [← ht]; exact hty k hk
  have hap := va_apart (own := q.1.cls) hts hin ty0 hty hnm hK hc
  obtain ⟨g1, g2, g3, r, h1, cell, q1, q2, q3, q4⟩ := hS.2.1 ci a fs h
  have hr : r = (C, T, N) := Option.some.inj (h1.symm.trans hc)
  subst hr
  obtain ⟨hSl, hfc, kC, hkC, hkind⟩ := hK.1 ci _ hc
  obtain ⟨cf, kf, fi, f, hi, hsl⟩ := hSl k hk
  have hlay := hts _ (hin _ (u_in_lay hk))
  unfold u_lay at hlay
  rw [if_neg (by rw [hfin]; decide)] at hlay
  have hst := (u_facts hfc hkC (u_lays hts hin hk) hi).1
  have h6 := u_store hfc hkC hkind hlay hi hd1 hn hfit
  refine W.putK C0.hx C0.hb (f := f) ⟨C0.hown, hts _ hw, ⟨_, _, _, hsm.use hts _ hi⟩, hst⟩ (by rw [q2]; exact h6) q1 q3 (by rw [hsl]; exact k2_hasslot (q4 k hk)) rfl rfl hd fun H' e1 e2 e3 => ?_
  rw [hsl] at e1 ⊢
  exact kk H' _ ls (Sh.oset hS h e2 e3 ⟨_, hc, t_OB.to (V := updV (vp_V fs) k v) ⟨_, e1, q2, q3, t_set q4 hap hk v⟩ (fun j _ => vp_updV_set hlen v j)⟩) (hV.put e2 e3 g3) hl
theorem xw_putF {ci a k index N : Nat} {fs : List Value} {v : Value} {C ref : String} {T : u_T} {ty : FieldType} (ty0 : Nat → FieldType) (hd : decode q.2.1 pc = .ok (.putfield index, 3)) (h : So M ci a = some fs) (hc : vwCl[ci]? = some (C, T, N)) (hin : ∀ w ∈ u_ws C T N, w ∈ TW) (hty : ∀ k, k < N → parseFieldDescriptor (T k).2.2.1 = some (ty0 k)) (hnm : ∀ a, a < N → ∀ b, b < N → a ≠ b → (T a).2.1 ≠ (T b).2.1) (hk : k < N)
    (hw : Cond.fieldLink q.1.cls index ref (T k).2.1 (T k).2.2.1 ∈ TW) (hsm : hx_same ref (T k)) (hfin : (T k).2.2.2 = true) (hin2 : q.1.name = "<init>") (hdecl : (T k).1 = q.1.cls) (ht : ty0 k = ty) (hn : narrow ty v = v) (hfit : fits ty v = true) (hlen : k < fs.length)
    (kk : XWg Kx Fx G d lo q As M0 P (oput M ci a (some (fs.set k v))) (pc + 3) L st) : XWg Kx Fx G d lo q As M0 P M pc L (v :: .ref a :: st) := by
  refine xw_h (M2 := oput M ci a (some (fs.set k v))) (fun hwf => Wf.oset hwf h) 0 0 rfl rfl (fun p e R s m below meth c Q k' n C0 hR1 hR2 hz hs H locs ls hS hV hl kk => ?_) kk
  have hK := C0.hK
  have hts := C0.hts
  have hown := C0.hown
  have hd1 : parseFieldDescriptor (T k).2.2.1 = some ty := by rw [← ht]; exact hty k hk
  have hap := va_apart (own := q.1.cls) hts hin ty0 hty hnm hK hc
  obtain ⟨g1, g2, g3, r, h1, cell, q1, q2, q3, q4⟩ := hS.2.1 ci a fs h
  have hr : r = (C, T, N) := Option.some.inj (h1.symm.trans hc)
  subst hr
  obtain ⟨hSl, hfc, kC, hkC, hkind⟩ := hK.1 ci _ hc
  obtain ⟨cf, kf, fi, f, hi, hsl⟩ := hSl k hk
  have hlay := hts _ (hin _ (u_in_lay hk))
  unfold u_lay at hlay
  rw [if_pos hfin] at hlay
  have hst := (u_facts hfc hkC (u_lays hts hin hk) hi).1
  have hcf : m.cls = cf := by
    obtain ⟨_, _, c', _, _, _, -, -, hf', -, -, -, hown2, -⟩ := Cond.laysFinal_spec hlay
    have e1 : c' = cf := by have := hi.symm.trans hf'; simp at this; exact this.1.symm
    rw [hdecl] at hown2
    rw [← e1]; exact Option.some.inj (hown.symm.trans hown2)
  have h6 := u_fits hfc hkC hkind (Or.inr hlay) hi hd1 hn hfit
  refine W.putFinK C0.hx C0.hb hown (hts _ hw) (hsm.use hts _ hi) hst hcf (C0.hnm.trans hin2) (by rw [q2]; exact h6) q1 q3 (by rw [hsl]; exact k2_hasslot (q4 k hk)) rfl rfl hd fun H' e1 e2 e3 => ?_
  rw [hsl] at e1 ⊢
  exact kk H' _ ls (Sh.oset hS h e2 e3 ⟨_, hc, t_OB.to (V := updV (vp_V fs) k v) ⟨_, e1, q2, q3, t_set q4 hap hk v⟩ (fun j _ => vp_updV_set hlen v j)⟩) (hV.put e2 e3 g3) hl
theorem va_S.new {A : Nat → Prop} {H0 H H1 : Heap} {locs : List Loc} (h : va_S A H0 H locs) (z : H1.size = H.size + 1) (o : ∀ q : Nat, q < H.size → H1[q]? = H[q]?) : va_S A H0 H1 locs :=
  ⟨by have := h.1; omega, fun x h1 h2 => (o x (Nat.lt_of_lt_of_le h1 h.1)).trans (h.2.1 x h1 h2), h.2.2⟩
theorem xw_new {ci index N : Nat} {fs : List Value} {C : String} {T : u_T} (ty : Nat → FieldType) (hd : decode q.2.1 pc = .ok (.new index, 3)) (hc : vwCl[ci]? = some (C, T, N)) (hin : ∀ w ∈ u_ws C T N, w ∈ TW) (hty : ∀ k, k < N → parseFieldDescriptor (T k).2.2.1 = some (ty k)) (h20 : ci < 20) (hcl : Cond.classLink q.1.cls index C ∈ TW) (hinst : Cond.instantiable C N ∈ TW) (hini : Cond.initialized C ∈ TW) (hfs : ∀ j, j < N → defaultValue (ty j) = vp_V fs j)
    (kk : XWg Kx Fx G d lo q As M0 P (oput (grow M N ci) ci (Sz M) (some fs)) (pc + 3) L (.ref (Sz M) :: st)) : XWg Kx Fx G d lo q As M0 P M pc L st := by
  refine xw_h (fun hwf => Wf.newo hwf h20) 1 N rfl rfl (fun p e R s m below meth c Q k' n C0 hR1 hR2 hz hs H locs ls hS hV hl kk => ?_) kk
  have hKn := C0.hK.1 ci _ hc
  refine W.newcK C0.hx C0.hb C0.hown (C0.hts _ hcl) (C0.hts _ hinst) (C0.hts _ hini) rfl hd hz hs hKn.2.1 hS.1 fun H1 kC hkC e1 z1 o1 => ?_
  have z1' : H1.size = H.size + 1 := by rw [z1, hS.1]
  have o1' : ∀ q : Nat, q < H.size → H1[q]? = H[q]? := fun q hq => o1 q (by rw [← hS.1]; exact hq)
  have hA : gA G (Sz M) := C0.hks.fresh _ (by rw [← hS.1]; exact hV.1)
  refine kk H1 locs ls (Sh.oin (Sh.grown hS z1' o1') hA (by rw [Sk_grow, if_pos rfl]) h20 ⟨_, hc, (u_born ty C0.hts hin hKn hkC e1 hty).to hfs⟩) (hV.new z1' o1') hl
/-- arrays of numbers -/
theorem gT_i {s : State} (h : va_K (gD G) vwCl (gT G) s) : ArrOfT s (gI G) .int ∧ va_RA s (gI G) .int := h.2 0 _ rfl
theorem gT_j {s : State} (h : va_K (gD G) vwCl (gT G) s) : ArrOfT s (gJ G) .long ∧ va_RA s (gJ G) .long := h.2 1 _ rfl
theorem gT_r {s : State} (h : va_K (gD G) vwCl (gT G) s) {k : Nat} (hk : k < 3) : ArrOfT s (gR G k) (.object (gN k)) ∧ va_RA s (gR G k) (.object (gN k)) := by
  match k, hk with
  | 0, _ => exact h.2 2 _ rfl
  | 1, _ => exact h.2 3 _ rfl
  | 2, _ => exact h.2 4 _ rfl
theorem xw_newI {n : Int32} {N : Nat} (hw : Cond.arrayClass .int ∈ TW) (hd : decode q.2.1 pc = .ok (.newarray .int, 2)) (hn : ¬ n < 0) (hN : n.toNatClampNeg = N) (hb : N * 4 ≤ 536870912) (kk : XWg Kx Fx G d lo q As M0 P (iput (grow M N 20) (Sz M) (some (N, fun _ => 0))) (pc + 2) L (.ref (Sz M) :: st)) : XWg Kx Fx G d lo q As M0 P M pc L (.int n :: st) := by
  refine xw_h (fun hwf => Wf.newi hwf) 1 N rfl rfl (fun p e R s m below meth c Q k' n' C0 hR1 hR2 hz hs H locs ls hS hV hl kk => ?_) kk
  refine va_newaK C0.hx C0.hb (atype := .int) (C0.hts _ hw) rfl hd rfl hn hN (by exact hb) hz hs hS.1 fun H1 cA e1 z1 o1 _ hfc => ?_
  have hcA : cA = gI G := by
    have h2 : s.vm.findClass ("[" ++ FieldType.int.toString) = some (gI G) := (gT_i C0.hK).2
    exact Option.some.inj (hfc.symm.trans h2)
  subst hcA
  have z1' : H1.size = H.size + 1 := by rw [z1, hS.1]
  have o1' : ∀ q : Nat, q < H.size → H1[q]? = H[q]? := fun q hq => o1 q (by rw [← hS.1]; exact hq)
  have hA : gA G (Sz M) := C0.hks.fresh _ (by rw [← hS.1]; exact hV.1)
  exact kk H1 locs ls (Sh.iin (Sh.grown hS z1' o1') hA (by rw [Sk_grow, if_pos rfl]) e1) (hV.new z1' o1') hl
theorem xw_newJ {n : Int32} {N : Nat} (hw : Cond.arrayClass .long ∈ TW) (hd : decode q.2.1 pc = .ok (.newarray .long, 2)) (hn : ¬ n < 0) (hN : n.toNatClampNeg = N) (hb : N * 8 ≤ 536870912) (kk : XWg Kx Fx G d lo q As M0 P (jput (grow M N 21) (Sz M) (some (N, fun _ => 0))) (pc + 2) L (.ref (Sz M) :: st)) : XWg Kx Fx G d lo q As M0 P M pc L (.int n :: st) := by
  refine xw_h (fun hwf => Wf.newj hwf) 1 N rfl rfl (fun p e R s m below meth c Q k' n' C0 hR1 hR2 hz hs H locs ls hS hV hl kk => ?_) kk
  refine va_newaK C0.hx C0.hb (atype := .long) (C0.hts _ hw) rfl hd rfl hn hN (by exact hb) hz hs hS.1 fun H1 cA e1 z1 o1 _ hfc => ?_
  have hcA : cA = gJ G := by
    have h2 : s.vm.findClass ("[" ++ FieldType.long.toString) = some (gJ G) := (gT_j C0.hK).2
    exact Option.some.inj (hfc.symm.trans h2)
  subst hcA
  have z1' : H1.size = H.size + 1 := by rw [z1, hS.1]
  have o1' : ∀ q : Nat, q < H.size → H1[q]? = H[q]? := fun q hq => o1 q (by rw [← hS.1]; exact hq)
  have hA : gA G (Sz M) := C0.hks.fresh _ (by rw [← hS.1]; exact hV.1)
  exact kk H1 locs ls (Sh.jin (Sh.grown hS z1' o1') hA (by rw [Sk_grow, if_pos rfl]) e1) (hV.new z1' o1') hl
theorem ks_AO {s : State} (h : KS G s) {k : Nat} (hk : k < 3) : va_AO (gN k) s := by
  match k, hk with
  | 0, _ => exact h.2.2.1.2.2
  | 1, _ => exact h.2.2.1.2.1
  | 2, _ => exact h.2.2.1.1
theorem xw_newR {k index : Nat} {n : Int32} {N : Nat} (hk : k < 3) (hw : Cond.classLink q.1.cls index (gN k) ∈ TW) (hd : decode q.2.1 pc = .ok (.anewarray index, 3)) (hn : ¬ n < 0) (hN : n.toNatClampNeg = N) (hb : N * 4 ≤ 536870912) (kk : XWg Kx Fx G d lo q As M0 P (rput (grow M N (22 + k)) k (Sz M) (some (N, fun _ => none))) (pc + 3) L (.ref (Sz M) :: st)) : XWg Kx Fx G d lo q As M0 P M pc L (.int n :: st) := by
  subst hN
  refine xw_h (fun hwf => Wf.newr hwf hk) 1 _ rfl rfl (fun p e R s m below meth c Q k' n' C0 hR1 hR2 hz hs H locs ls hS hV hl kk => ?_) kk
  refine W.anew C0.hx C0.hb C0.hown (C0.hts _ hw) (va_AO.use (ks_AO C0.hks hk)) rfl hd rfl hn hb hz hs fun cA kA comp f1 f2 f3 f4 => ?_
  generalize hH1 : H.push ({ cls := cA, slots := Array.replicate n.toNatClampNeg .null, vm := .none } : Cell) = H1
  have z1 : H1.size = H.size + 1 := by rw [← hH1, Array.size_push]
  have e1 : H1[H.size]? = some (arrV cA n.toNatClampNeg (fun _ => .null)) := by rw [← hH1, Array.getElem?_push_size, ← arrV_new]
  have o1 : ∀ q : Nat, q < H.size → H1[q]? = H[q]? := fun q hq => by rw [← hH1, Array.getElem?_push, if_neg (Nat.ne_of_lt hq)]
  have hcA : cA = gR G k := by
    obtain ⟨_, _, _, _, _, h4⟩ := (gT_r C0.hK hk).2
    exact Option.some.inj (f1.symm.trans h4)
  subst hcA
  have hA : gA G (Sz M) := C0.hks.fresh _ (by rw [← hS.1]; exact hV.1)
  have e2 : hc_r G k (Sz M) n.toNatClampNeg (fun _ => none) H1 := by
    show H1[Sz M]? = _
    rw [← hS.1]
    exact e1
  rw [hS.1]
  exact kk H1 locs ls (Sh.rin (Sh.grown hS z1 o1) hA (by rw [Sk_grow, if_pos rfl]) hk e2) (hV.new z1 o1) hl
theorem xw_iald {a n : Nat} {f : Nat → Int32} {i : Int32} (hd : decode q.2.1 pc = .ok (.iaload, 1)) (h : Si M a = some (n, f)) (hin : vp_in i n) (kk : XWg Kx Fx G d lo q As M0 P M (pc + 1) L (.int (f i.toNatClampNeg) :: st)) : XWg Kx Fx G d lo q As M0 P M pc L (.int i :: .ref a :: st) :=
  xw_g (fun p e R s m below meth c Q k' n' C0 hR1 hR2 H locs ls hS hV hl kk => by
    have hc := (hS.2.2.1 a _ h).2.2
    have hlt : i.toNatClampNeg < n := Nat.not_le.mp fun q => hin (Or.inr q)
    exact W.iald (v := .int (f i.toNatClampNeg)) C0.hx C0.hb hc ((gT_i C0.hK).1 n (fun j => .int (f j))) (fun q => by cases q) (by show ¬ (i < 0 ∨ (arrV _ _ _).slots.size ≤ _); rw [arrV_size]; exact hin) (by show (arrV _ _ _).slots[_]? = _; rw [arrV_read _ _ hlt]) rfl rfl hd (kk ls hl)) kk
theorem xw_lald {a n : Nat} {f : Nat → Int64} {i : Int32} (hd : decode q.2.1 pc = .ok (.laload, 1)) (h : Sj M a = some (n, f)) (hin : vp_in i n) (kk : XWg Kx Fx G d lo q As M0 P M (pc + 1) L (.long (f i.toNatClampNeg) :: st)) : XWg Kx Fx G d lo q As M0 P M pc L (.int i :: .ref a :: st) :=
  xw_g (fun p e R s m below meth c Q k' n' C0 hR1 hR2 H locs ls hS hV hl kk => by
    have hc := (hS.2.2.2.1 a _ h).2.2
    have hlt : i.toNatClampNeg < n := Nat.not_le.mp fun q => hin (Or.inr q)
    exact W.lald (v := .long (f i.toNatClampNeg)) C0.hx C0.hb hc ((gT_j C0.hK).1 n (fun j => .long (f j))) (fun q => by cases q) (by show ¬ (i < 0 ∨ (arrV _ _ _).slots.size ≤ _); rw [arrV_size]; exact hin) (by show (arrV _ _ _).slots[_]? = _; rw [arrV_read _ _ hlt]) rfl rfl hd (kk ls hl)) kk
theorem xw_aald {k a n : Nat} {f : Nat → Option Nat} {i : Int32} {v : Value} (hd : decode q.2.1 pc = .ok (.aaload, 1)) (h : Sr M k a = some (n, f)) (hin : vp_in i n) (hv : va_rf (f i.toNatClampNeg) = v) (kk : XWg Kx Fx G d lo q As M0 P M (pc + 1) L (v :: st)) : XWg Kx Fx G d lo q As M0 P M pc L (.int i :: .ref a :: st) :=
  xw_g (fun p e R s m below meth c Q k' n' C0 hR1 hR2 H locs ls hS hV hl kk => by
    subst hv
    obtain ⟨_, h3, _, hc⟩ := hS.2.2.2.2.1 k a _ h
    have hlt : i.toNatClampNeg < n := Nat.not_le.mp fun q => hin (Or.inr q)
    exact W.aald (v := va_rf (f i.toNatClampNeg)) (ty := .object (gN k)) C0.hx C0.hb hc ((gT_r C0.hK h3).1 n (fun j => va_rf (f j))) rfl (fun q => by cases q) (by show ¬ (i < 0 ∨ (arrV _ _ _).slots.size ≤ _); rw [arrV_size]; exact hin) (by show (arrV _ _ _).slots[_]? = _; rw [arrV_read _ _ hlt]) rfl rfl hd (kk ls hl)) kk
theorem xw_ilen {a n : Nat} {f : Nat → Int32} (hd : decode q.2.1 pc = .ok (.arraylength, 1)) (h : Si M a = some (n, f)) (kk : XWg Kx Fx G d lo q As M0 P M (pc + 1) L (.int (nI n) :: st)) : XWg Kx Fx G d lo q As M0 P M pc L (.ref a :: st) :=
  xw_g (fun p e R s m below meth c Q k' n' C0 hR1 hR2 H locs ls hS hV hl kk => by
    have hc := (hS.2.2.1 a _ h).2.2
    exact W.alen (n := nI n) C0.hx C0.hb hc ((gT_i C0.hK).1 n (fun j => .int (f j))) (by rw [arrV_size]; rfl) rfl rfl hd (kk ls hl)) kk
theorem xw_rlen {k a n : Nat} {f : Nat → Option Nat} (hd : decode q.2.1 pc = .ok (.arraylength, 1)) (h : Sr M k a = some (n, f)) (kk : XWg Kx Fx G d lo q As M0 P M (pc + 1) L (.int (nI n) :: st)) : XWg Kx Fx G d lo q As M0 P M pc L (.ref a :: st) :=
  xw_g (fun p e R s m below meth c Q k' n' C0 hR1 hR2 H locs ls hS hV hl kk => by
    obtain ⟨_, h3, _, hc⟩ := hS.2.2.2.2.1 k a _ h
    exact W.alen (n := nI n) C0.hx C0.hb hc ((gT_r C0.hK h3).1 n (fun j => va_rf (f j))) (by rw [arrV_size]; rfl) rfl rfl hd (kk ls hl)) kk
theorem xw_iast {a n : Nat} {f : Nat → Int32} {i x : Int32} (hd : decode q.2.1 pc = .ok (.iastore, 1)) (h : Si M a = some (n, f)) (hin : vp_in i n) (kk : XWg Kx Fx G d lo q As M0 P (iput M a (some (n, upd f i.toNatClampNeg x))) (pc + 1) L st) : XWg Kx Fx G d lo q As M0 P M pc L (.int x :: .int i :: .ref a :: st) := by
  refine xw_h (M2 := iput M a (some (n, upd f i.toNatClampNeg x))) (fun hwf => Wf.iset hwf h) 0 0 rfl rfl (fun p e R s m below meth c Q k' n' C0 hR1 hR2 hz hs H locs ls hS hV hl kk => ?_) kk
  obtain ⟨h1, h2, hc⟩ := hS.2.2.1 a _ h
  refine W.iast C0.hx C0.hb hc ((gT_i C0.hK).1 n (fun j => .int (f j))) (fun q => by cases q) (by show ¬ (i < 0 ∨ (arrV _ _ _).slots.size ≤ _); rw [arrV_size]; exact hin) rfl rfl hd fun H1 e1 z oq => ?_
  refine kk H1 _ ls (Sh.iset hS h z oq ?_) (hV.put z oq h2) hl
  show H1[a]? = some (arrV _ _ _)
  rw [e1, arrV_store]
  congr 2
  funext j
  by_cases hj : j = i.toNatClampNeg
  · subst hj; simp [updV, upd]
  · simp [updV, upd, hj]
theorem xw_last {a n : Nat} {f : Nat → Int64} {i : Int32} {x : Int64} (hd : decode q.2.1 pc = .ok (.lastore, 1)) (h : Sj M a = some (n, f)) (hin : vp_in i n) (kk : XWg Kx Fx G d lo q As M0 P (jput M a (some (n, vp_updL f i.toNatClampNeg x))) (pc + 1) L st) : XWg Kx Fx G d lo q As M0 P M pc L (.long x :: .int i :: .ref a :: st) := by
  refine xw_h (M2 := jput M a (some (n, vp_updL f i.toNatClampNeg x))) (fun hwf => Wf.jset hwf h) 0 0 rfl rfl (fun p e R s m below meth c Q k' n' C0 hR1 hR2 hz hs H locs ls hS hV hl kk => ?_) kk
  obtain ⟨h1, h2, hc⟩ := hS.2.2.2.1 a _ h
  refine W.last C0.hx C0.hb hc ((gT_j C0.hK).1 n (fun j => .long (f j))) (fun q => by cases q) (by show ¬ (i < 0 ∨ (arrV _ _ _).slots.size ≤ _); rw [arrV_size]; exact hin) rfl rfl hd fun H1 e1 z oq => ?_
  refine kk H1 _ ls (Sh.jset hS h z oq ?_) (hV.put z oq h2) hl
  show H1[a]? = some (arrV _ _ _)
  rw [e1, arrV_store]
  congr 2
  funext j
  by_cases hj : j = i.toNatClampNeg
  · subst hj; simp [updV, vp_updL]
  · simp [updV, vp_updL, hj]
/-- null into an array of references -/
theorem xw_aastN {k a n : Nat} {f : Nat → Option Nat} {i : Int32} (hd : decode q.2.1 pc = .ok (.aastore, 1)) (h : Sr M k a = some (n, f)) (hin : vp_in i n) (kk : XWg Kx Fx G d lo q As M0 P (rput M k a (some (n, va_up f i.toNatClampNeg none))) (pc + 1) L st) : XWg Kx Fx G d lo q As M0 P M pc L (.null :: .int i :: .ref a :: st) := by
  refine xw_h (M2 := rput M k a (some (n, va_up f i.toNatClampNeg none))) (fun hwf => Wf.rset hwf h) 0 0 rfl rfl (fun p e R s m below meth c Q k' n' C0 hR1 hR2 hz hs H locs ls hS hV hl kk => ?_) kk
  obtain ⟨h1, h3, h2, hc⟩ := hS.2.2.2.2.1 k a _ h
  refine va_WaastN (C := gN k) C0.hx C0.hb hc ((gT_r C0.hK h3).1 n (fun j => va_rf (f j))) (fun q => by cases q) (by show ¬ (i < 0 ∨ (arrV _ _ _).slots.size ≤ _); rw [arrV_size]; exact hin) rfl rfl hd fun H1 e1 z oq => ?_
  refine kk H1 _ ls (Sh.rset hS h z oq ?_) (hV.put z oq h2) hl
  show H1[a]? = some (arrV _ _ _)
  rw [e1, arrV_store]
  congr 2
  funext j
  by_cases hj : j = i.toNatClampNeg
  · subst hj; simp [updV, va_up, va_rf]
  · simp [updV, va_up, hj]
/-- an object into an array of references: its class fits what the array is over -/
theorem xw_aast {k a n ci v N : Nat} {f : Nat → Option Nat} {i : Int32} {vs : List Value} {C : String} {T : u_T} (hd : decode q.2.1 pc = .ok (.aastore, 1)) (h : Sr M k a = some (n, f)) (hin : vp_in i n) (hv : So M ci v = some vs) (hc0 : vwCl[ci]? = some (C, T, N)) (hfit : ∀ s : State, KS G s → ∀ cC : ClassId, ∀ comp : ClassId, s.vm.findClass C = some cC → s.vm.findClass (gN k) = some comp → s.vm.assignable cC comp = true)
    (kk : XWg Kx Fx G d lo q As M0 P (rput M k a (some (n, va_up f i.toNatClampNeg (some v)))) (pc + 1) L st) : XWg Kx Fx G d lo q As M0 P M pc L (.ref v :: .int i :: .ref a :: st) := by
  refine xw_h (M2 := rput M k a (some (n, va_up f i.toNatClampNeg (some v)))) (fun hwf => Wf.rset hwf h) 0 0 rfl rfl (fun p e R s m below meth c Q k' n' C0 hR1 hR2 hz hs H locs ls hS hV hl kk => ?_) kk
  obtain ⟨h1, h3, h2, hc⟩ := hS.2.2.2.2.1 k a _ h
  have hlt : i.toNatClampNeg < n := Nat.not_le.mp fun q => hin (Or.inr q)
  have h0 : ¬ i < 0 := fun q => hin (Or.inl q)
  obtain ⟨-, -, -, r', hr', cellV, g1, g2, g3, -⟩ := hS.2.1 ci v vs hv
  have hcls := (C0.hK.1 ci _ hc0).2
  obtain ⟨kA, comp, k1, k2, k3, -⟩ := (gT_r C0.hK h3).2
  obtain ⟨kC, hkC, -⟩ := hcls.2
  obtain ⟨kComp, hkComp, -⟩ := Vm.findClass_spec k3
  have hasg := hfit s C0.hks _ _ hcls.1 k3
  refine W.aast C0.hx C0.hb hc (fun q h => by cases h) (fun h => by cases h) k1 k2 rfl hkComp ⟨h0, by show _ < (arrV _ _ _).slots.size; rw [arrV_size]; exact hlt⟩ g1 (fun q h => by rw [g3] at h; cases h) (by rw [g2]; exact hkC) (by rw [g2]; exact hasg) rfl rfl hd fun H1 e1 z oq => ?_
  refine kk H1 _ ls (Sh.rset hS h z oq ?_) (hV.put z oq h2) hl
  show H1[a]? = some (arrV _ _ _)
  rw [e1, arrV_store]
  congr 2
  funext j
  by_cases hj : j = i.toNatClampNeg
  · subst hj; simp [updV, va_up, va_rf]
  · simp [updV, va_up, hj]
theorem fit_same {C : String} {k ci N : Nat} {T : u_T} (hc0 : vwCl[ci]? = some (C, T, N)) (e : gN k = C) : ∀ s : State, KS G s → ∀ cC : ClassId, ∀ comp : ClassId, s.vm.findClass C = some cC → s.vm.findClass (gN k) = some comp → s.vm.assignable cC comp = true := by
  intro s h cC comp h1 h2
  rw [e] at h2
  cases h1.symm.trans h2
  have := (h.1.1 ci _ hc0).2
  have e2 : (gD G).1 ci = cC := Option.some.inj (this.1.symm.trans h1)
  rw [e2] at this
  exact va_assign this
theorem fit_cast {C : String} (hw : ∀ s : State, KS G s → va_Nw (.castable C "java/lang/Object") s) : ∀ s : State, KS G s → ∀ cC : ClassId, ∀ comp : ClassId, s.vm.findClass C = some cC → s.vm.findClass (gN 2) = some comp → s.vm.assignable cC comp = true := by
  intro s h cC comp h1 h2
  obtain ⟨c0, t0, f1, f2, f3⟩ := Cond.castable_spec (va_Nw.use (A := #[]) rfl (hw s h))
  cases h1.symm.trans f1
  cases h2.symm.trans f2
  exact f3
/-- statics, and the tables that they hold -/
theorem xw_gets {index t : Nat} {n : String} {tab : List Int32} (hw : Cond.fieldLink q.1.cls index RX9 n "[I" ∈ TW) (hd : decode q.2.1 pc = .ok (.getstatic index, 3)) (hZ : ∀ s : State, KS G s → ks_T G n t tab s s.heap) (kk : XWg Kx Fx G d lo q As M0 P M (pc + 3) L (.ref t :: st)) : XWg Kx Fx G d lo q As M0 P M pc L st :=
  xw_g (fun p e R s m below meth c Q k' n' C0 hR1 hR2 H locs ls hS hV hl kk => va_gets C0.hx C0.hb (hZ s C0.hks).1 hV C0.hown (C0.hts _ hw) (fun x hx => hx) hd (kk ls hl)) kk
theorem xw_tald {t : Nat} {n : String} {tab : List Int32} {i v : Int32} (hd : decode q.2.1 pc = .ok (.iaload, 1)) (hZ : ∀ s : State, KS G s → ks_T G n t tab s s.heap) (hin : vp_in i 18) (hv : tab.getD i.toNatClampNeg 0 = v) (kk : XWg Kx Fx G d lo q As M0 P M (pc + 1) L (.int v :: st)) : XWg Kx Fx G d lo q As M0 P M pc L (.int i :: .ref t :: st) :=
  xw_g (fun p e R s m below meth c Q k' n' C0 hR1 hR2 H locs ls hS hV hl kk => va_ti C0.hx C0.hb (hZ s C0.hks).2 hV hin (by show Value.int _ = _; rw [hv]) hd (kk ls hl)) kk
theorem xw_tlen {t : Nat} {n : String} {tab : List Int32} (hd : decode q.2.1 pc = .ok (.arraylength, 1)) (hZ : ∀ s : State, KS G s → ks_T G n t tab s s.heap) (kk : XWg Kx Fx G d lo q As M0 P M (pc + 1) L (.int 18 :: st)) : XWg Kx Fx G d lo q As M0 P M pc L (.ref t :: st) :=
  xw_g (fun p e R s m below meth c Q k' n' C0 hR1 hR2 H locs ls hS hV hl kk => va_tlen C0.hx C0.hb (hZ s C0.hks).2 hV rfl hd (kk ls hl)) kk
theorem ks_P {s : State} (h : KS G s) : ks_T G "PORTS" (gP G) tabP s s.heap := h.2.2.2.2.2.2.1
theorem ks_X {s : State} (h : KS G s) : ks_T G "WANTED_X" (gX G) tabX s s.heap := h.2.2.2.2.2.2.2.1
theorem ks_Y {s : State} (h : KS G s) : ks_T G "WANTED_Y" (gY G) tabY s s.heap := h.2.2.2.2.2.2.2.2.1
theorem ks_K {s : State} (h : KS G s) : gK G s := h.2.2.2.2.2.2.2.2.2.2
/-- a cast to the object's own class -/
theorem xw_cast {ci a index N : Nat} {fs : List Value} {C : String} {T : u_T} (hd : decode q.2.1 pc = .ok (.checkcast index, 3)) (h : So M ci a = some fs) (hc : vwCl[ci]? = some (C, T, N)) (hw : Cond.classLink q.1.cls index C ∈ TW) (kk : XWg Kx Fx G d lo q As M0 P M (pc + 3) L (.ref a :: st)) : XWg Kx Fx G d lo q As M0 P M pc L (.ref a :: st) :=
  xw_g (fun p e R s m below meth c Q k' n' C0 hR1 hR2 H locs ls hS hV hl kk => va_castS C0.hx C0.hb C0.hown (C0.hts _ hw) (C0.hK.1 ci _ hc).2 (va_recv C0.hK (va_P1 (hS.2.1 ci a fs h).2.2.2) hc (q0 := 0) rfl) hd (kk ls hl)) kk
/-- Object's constructor -/
theorem xw_obj {a index : Nat} (hd : decode q.2.1 pc = .ok (.invokespecial index, 3)) (hw : Cond.methodLink q.1.cls index objectInit ∈ TW) (hw2 : Cond.instanceMethod objectInit ∈ TW) (hw3 : Cond.code objectInit ⟨#[0xb1]⟩ 1 none ∈ TW) (hf : 1 ≤ d) (hlo : (st.map fun v => v.category).sum + 12 ≤ lo) (kk : XWg Kx Fx G d lo q As M0 P M (pc + 3) L st) : XWg Kx Fx G d lo q As M0 P M pc L (.ref a :: st) :=
  xw_g (fun p e R s m below meth c Q k' n' C0 hR1 hR2 H locs ls hS hV hl kk => W.objInit C0.hx C0.hb C0.hown (C0.hts _ hw) (C0.hts _ hw2) (C0.hts _ hw3) rfl (by rw [C0.hml]; exact hl.1) rfl hd (by rw [← hR1]; exact hf) (by rw [← hR2]; show 2 * 0 + _ + 12 ≤ lo; omega) (kk ls hl)) kk
theorem xw_min {index : Nat} {x y : Int32} (hd : decode q.2.1 pc = .ok (.invokestatic index, 3)) (hw : Cond.methodLink q.1.cls index Lib.Math.min.name ∈ TW) (hw2 : Cond.static Lib.Math.min.name ∈ TW) (hw3 : Cond.initialized "java/lang/Math" ∈ TW) (hw4 : Cond.code Lib.Math.min.name Lib.Math.min.code 2 (some .int) ∈ TW) (hf : 1 ≤ d) (hlo : (st.map fun v => v.category).sum + 13 ≤ lo) (kk : XWg Kx Fx G d lo q As M0 P M (pc + 3) L (.int (if y < x then y else x) :: st)) : XWg Kx Fx G d lo q As M0 P M pc L (.int y :: .int x :: st) :=
  xw_h id 0 0 rfl rfl (fun p e R s m below meth c Q k' n' C0 hR1 hR2 hz hs H locs ls hS hV hl kk => va_mmin C0.hx C0.hb (by rw [C0.hml]; exact hl.1.symm) C0.hown (C0.hts _ hw) (C0.hts _ hw2) (C0.hts _ hw3) (C0.hts _ hw4) (by rw [← hR1]; exact hf) (by rw [← hR2]; exact hlo) hz hs hd (kk H locs ls hS hV hl)) kk
theorem xw_max {index : Nat} {x y : Int32} (hd : decode q.2.1 pc = .ok (.invokestatic index, 3)) (hw : Cond.methodLink q.1.cls index Lib.Math.max.name ∈ TW) (hw2 : Cond.static Lib.Math.max.name ∈ TW) (hw3 : Cond.initialized "java/lang/Math" ∈ TW) (hw4 : Cond.code Lib.Math.max.name Lib.Math.max.code 2 (some .int) ∈ TW) (hf : 1 ≤ d) (hlo : (st.map fun v => v.category).sum + 13 ≤ lo) (kk : XWg Kx Fx G d lo q As M0 P M (pc + 3) L (.int (if x < y then y else x) :: st)) : XWg Kx Fx G d lo q As M0 P M pc L (.int y :: .int x :: st) :=
  xw_h id 0 0 rfl rfl (fun p e R s m below meth c Q k' n' C0 hR1 hR2 hz hs H locs ls hS hV hl kk => va_mmax C0.hx C0.hb (by rw [C0.hml]; exact hl.1.symm) C0.hown (C0.hts _ hw) (C0.hts _ hw2) (C0.hts _ hw3) (C0.hts _ hw4) (by rw [← hR1]; exact hf) (by rw [← hR2]; exact hlo) hz hs hd (kk H locs ls hS hV hl)) kk
/-! calls -/
theorem blind (As : List Value) (M : hx_S) : FrameBlind (va_Pc As (fun U => hx_Pre G M U)) := fun a U g mk h => ⟨h.1, h.2.1, h.2.2.same rfl rfl⟩
theorem xw_ret {rest : List Value} {r : Option Value} {M1 : hx_S} (hwf1 : Wf M1) (hl1 : hle M M1) (hr : ∀ (p : Program) (e : Env) (R : Room) (s : State) (m : MethodId) (below : List Frame) (meth : Method) (c : Code) (k n : Nat), hx_C G q M0 p s m As.toArray meth c → d = R.frames → lo = R.locals → k + (Sz M1 - Sz M) ≤ R.cells → n + (Sl M1 - Sl M) ≤ R.slots →
      ∀ (H : Heap) (locs : List Loc) (ls : Array Slot), Sh G M H → va_S (gA G) s.heap H locs → lv_has ls q.2.2.1 L → ∃ a, va_Run p (gL G) e R s m As.toArray below meth c H locs k n (Sz M1 - Sz M) (Sl M1 - Sl M) (F0 m pc ls st) rest (hx_Q G M1 r a) (gA G))
    (kk : XWg Kx Fx G d lo q As M0 P M1 (pc + 3) L (r.toList ++ rest)) : XWg Kx Fx G d lo q As M0 P M pc L st := by
  refine xw_h (fun _ => hwf1) (Sz M1 - Sz M) (Sl M1 - Sl M) (by have := hl1.1; omega) (by have := hl1.2; omega) (fun p e R s m below meth c Q k' n' C0 hR1 hR2 hz hs H locs ls hS hV hl kk => ?_) kk
  obtain ⟨a, hrun⟩ := hr p e R s m below meth c k' n' C0 hR1 hR2 hz hs H locs ls hS hV hl
  intro T hT X
  obtain ⟨v, st₀, t, T', Lo, h0, X', hL, e1, e2, ⟨hv, hPre, hzz, hkk⟩, stp⟩ := hrun T hT X
  cases hv
  rw [h0] at hzz hkk
  have hV2 : va_S (gA G) s.heap T'.heap (locs ++ Lo) := ⟨by rw [e1]; exact Nat.le_trans hV.1 hzz, fun x h1 h2 => by rw [e1, hkk x (Nat.lt_of_lt_of_le h1 hV.1) h2]; exact hV.2.1 x h1 h2, fun x hx => by
    rcases List.mem_append.mp hx with h | h
    · exact hV.2.2 x h
    · exact hL x h⟩
  obtain ⟨t2, a1, b1⟩ := kk T'.heap (locs ++ Lo) ls (by rw [e1]; exact hPre.1) hV2 hl T' rfl X'
  exact ⟨t2, stp t2 a1, b1⟩
theorem hx_good {q2 : hx_M} (h2 : Cond.code q2.1 q2.2.1 q2.2.2.1 q2.2.2.2 ∈ TW) : GoodIn TW (hx_w q2) := by
  intro w hw
  rcases List.mem_cons.mp hw with e | e
  · subst e
    exact TW_good _ h2
  · exact TW_good _ e
/-- a call by the receiver's class -/
theorem xw_callV {q2 : hx_M} {d2 lo2 b ci index N n2 : Nat} {Bs rest : List Value} {C : String} {T : u_T} {P2 : Option Value → hx_S → Prop} (hct : CT G d2 lo2 q2 (.ref b :: Bs) M P2) (hd : decode q.2.1 pc = .ok (.invokevirtual index, 3)) (hst : st = Bs.reverse ++ .ref b :: rest)
    (hcell : ∀ H : Heap, Sh G M H → ∃ ws, va_at (gD G) vwCl (b, .inr (ci, ws)) H) (hc : vwCl[ci]? = some (C, T, N)) (hy : q2.1.cls = C) (hw1 : Cond.methodLink q.1.cls index q2.1 ∈ TW) (hw2 : Cond.instanceMethod q2.1 ∈ TW) (hw3 : Cond.selects C q2.1 q2.1 ∈ TW) (hw4 : Cond.initialized C ∈ TW) (hw5 : Cond.code q2.1 q2.2.1 q2.2.2.1 q2.2.2.2 ∈ TW)
    (hdsc : q2.1.cls ≠ "java/lang/invoke/MethodHandle" ∧ q2.1.cls ≠ "java/lang/invoke/VarHandle" ∧ (parseMethodDescriptor q2.1.desc).map (fun d => d.parameters.length) = some n2) (hn : Bs.length = n2) (hrest : (rest.map fun v => v.category).sum ≤ 8) (hfr : d2 + 1 ≤ d) (hlo : 8 + (q2.2.2.1 + 11) + lo2 ≤ lo)
    (kk : ∀ (r : Option Value) (M1 : hx_S), P2 r M1 → hle M M1 → XWg Kx Fx G d lo q As M0 P M1 (pc + 3) L (r.toList ++ rest)) : XWg Kx Fx G d lo q As M0 P M pc L st := by
  refine xw_wf fun hwf => ?_
  obtain ⟨r, M1, hP2, hl1, hwf1, hM⟩ := hct hwf
  refine xw_ret (rest := rest) (r := r) hwf1 hl1 (fun p e R s m below meth c k' n' C0 hR1 hR2 hz hs H locs ls hS hV hl => ?_) (kk r M1 hP2 hl1)
  obtain ⟨ws, hat⟩ := hcell H hS
  have hG : GoodIn TW (wsV q.1.cls index C q2.1 (hx_w q2)) := by
    intro w hw
    rcases List.mem_append.mp hw with e | e
    · have hin : w ∈ TW := by
        simp only [List.mem_cons, List.not_mem_nil, or_false] at e
        rcases e with e | e | e | e <;> (subst e; assumption)
      exact TW_good _ hin
    · exact hx_good hw5 w e
  refine ⟨_, va_runV (As := Bs) (rest := rest) (g := F0 m pc ls st) ⟨C0.hx, C0.hb, C0.hml, C0.hown, C0.hts0⟩ hM (cwV n2 C0.hts0 hG rfl rfl rfl ⟨hy, hdsc⟩ ⟨by rw [← hR1]; exact hfr, by rw [← hR2]; exact hlo⟩) ⟨blind _ _, va_recv C0.hK (va_P1 hat) hc (q0 := 0) rfl, fun U hU hW => ⟨rfl, by rw [hU]; exact hS, C0.hks.go hW (by rw [hU]; exact hV.1) (fun a ha hna => by rw [hU]; exact hV.2.1 a ha hna)⟩⟩ rfl hn hl.1 hst (lv_room hrest) hd ⟨hz, hs⟩⟩
theorem xw_callS {q2 : hx_M} {d2 lo2 index n2 : Nat} {Bs rest : List Value} {P2 : Option Value → hx_S → Prop} (hct : CT G d2 lo2 q2 Bs M P2) (hd : decode q.2.1 pc = .ok (.invokestatic index, 3)) (hst : st = Bs.reverse ++ rest)
    (hw1 : Cond.methodLink q.1.cls index q2.1 ∈ TW) (hw2 : Cond.static q2.1 ∈ TW) (hw4 : Cond.initialized q2.1.cls ∈ TW) (hw5 : Cond.code q2.1 q2.2.1 q2.2.2.1 q2.2.2.2 ∈ TW)
    (hdsc : q2.1.cls ≠ "java/lang/invoke/MethodHandle" ∧ q2.1.cls ≠ "java/lang/invoke/VarHandle" ∧ (parseMethodDescriptor q2.1.desc).map (fun d => d.parameters.length) = some n2) (hn : Bs.length = n2) (hrest : (rest.map fun v => v.category).sum ≤ 8) (hfr : d2 + 1 ≤ d) (hlo : 8 + (q2.2.2.1 + 11) + lo2 ≤ lo)
    (kk : ∀ (r : Option Value) (M1 : hx_S), P2 r M1 → hle M M1 → XWg Kx Fx G d lo q As M0 P M1 (pc + 3) L (r.toList ++ rest)) : XWg Kx Fx G d lo q As M0 P M pc L st := by
  refine xw_wf fun hwf => ?_
  obtain ⟨r, M1, hP2, hl1, hwf1, hM⟩ := hct hwf
  refine xw_ret (rest := rest) (r := r) hwf1 hl1 (fun p e R s m below meth c k' n' C0 hR1 hR2 hz hs H locs ls hS hV hl => ?_) (kk r M1 hP2 hl1)
  have hG : GoodIn TW (va_wsS q.1.cls index q2.1 (hx_w q2)) := by
    intro w hw
    rcases List.mem_append.mp hw with e | e
    · have hin : w ∈ TW := by
        simp only [List.mem_cons, List.not_mem_nil, or_false] at e
        rcases e with e | e | e <;> (subst e; assumption)
      exact TW_good _ hin
    · exact hx_good hw5 w e
  refine ⟨_, va_runS (As := Bs) (rest := rest) (g := F0 m pc ls st) ⟨C0.hx, C0.hb, C0.hml, C0.hown, C0.hts0⟩ hM (va_cwS n2 C0.hts0 hG rfl rfl rfl hdsc ⟨by rw [← hR1]; exact hfr, by rw [← hR2]; exact hlo⟩) ⟨blind _ _, fun U hU hW => ⟨rfl, by rw [hU]; exact hS, C0.hks.go hW (by rw [hU]; exact hV.1) (fun a ha hna => by rw [hU]; exact hV.2.1 a ha hna)⟩⟩ rfl hn hl.1 hst (lv_room hrest) hd ⟨hz, hs⟩⟩
theorem xw_callI {q2 : hx_M} {d2 lo2 b index n2 : Nat} {Bs rest : List Value} {P2 : Option Value → hx_S → Prop} (hct : CT G d2 lo2 q2 (.ref b :: Bs) M P2) (hrt : q2.2.2.2 = none) (hd : decode q.2.1 pc = .ok (.invokespecial index, 3)) (hst : st = Bs.reverse ++ .ref b :: rest)
    (hy1 : q2.1.name = "<init>") (hw1 : Cond.methodLink q.1.cls index q2.1 ∈ TW) (hw2 : Cond.instanceMethod q2.1 ∈ TW) (hw4 : Cond.initialized q2.1.cls ∈ TW) (hw5 : Cond.code q2.1 q2.2.1 q2.2.2.1 q2.2.2.2 ∈ TW)
    (hdsc : q2.1.cls ≠ "java/lang/invoke/MethodHandle" ∧ q2.1.cls ≠ "java/lang/invoke/VarHandle" ∧ (parseMethodDescriptor q2.1.desc).map (fun d => d.parameters.length) = some n2) (hn : Bs.length = n2) (hrest : (rest.map fun v => v.category).sum ≤ 8) (hfr : d2 + 1 ≤ d) (hlo : 8 + (q2.2.2.1 + 11) + lo2 ≤ lo)
    (kk : ∀ (r : Option Value) (M1 : hx_S), P2 r M1 → hle M M1 → XWg Kx Fx G d lo q As M0 P M1 (pc + 3) L (r.toList ++ rest)) : XWg Kx Fx G d lo q As M0 P M pc L st := by
  refine xw_wf fun hwf => ?_
  obtain ⟨r, M1, hP2, hl1, hwf1, hM⟩ := hct hwf
  refine xw_ret (rest := rest) (r := r) hwf1 hl1 (fun p e R s m below meth c k' n' C0 hR1 hR2 hz hs H locs ls hS hV hl => ?_) (kk r M1 hP2 hl1)
  obtain ⟨y2, cc2, mL2, rt2⟩ := q2
  simp only at hrt
  subst hrt
  refine ⟨_, va_runI (As := Bs) (rest := rest) (g := F0 m pc ls st) ⟨C0.hx, C0.hb, C0.hml, C0.hown, C0.hts0⟩ hM ⟨callB_of n2 C0.hts0 (hx_good hw5) rfl rfl rfl (C0.hts _ hw4) (C0.hts _ hw1) hdsc ⟨by rw [← hR1]; exact hfr, by rw [← hR2]; exact hlo⟩, hy1, C0.hts _ hw2⟩ ⟨blind _ _, fun U hU hW => ⟨rfl, by rw [hU]; exact hS, C0.hks.go hW (by rw [hU]; exact hV.1) (fun a ha hna => by rw [hU]; exact hV.2.1 a ha hna)⟩⟩ rfl hn hl.1 hst (lv_room hrest) hd ⟨hz, hs⟩⟩
end XR2
