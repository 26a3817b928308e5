/-! rows that only ArrayList's own code needs -/
/-! the last of two at one place stands -/
theorem rput_rput (M : hx_S) (k a : Nat) (x y : Option (Nat × (Nat → Option Nat))) : rput (rput M k a x) k a y = rput M k a y := by
  refine hx_ext (Sz_rput _ _ _ _) (Sl_rput _ _ _ _) (fun b => Sk_rput _ _ _ _ b) (fun c b => So_rput _ _ _ _ c b) (fun b => Si_rput _ _ _ _ b) (fun b => Sj_rput _ _ _ _ b) (fun c b => ?_) (fun b => Sq_rput _ _ _ _ b)
  rw [Sr_rput, Sr_rput, Sr_rput]
  by_cases hz : c = k ∧ b = a
  · rw [if_pos hz, if_pos hz]
  · rw [if_neg hz, if_neg hz, if_neg hz]
theorem oput_oput (M : hx_S) (k a : Nat) (x y : Option (List Value)) : oput (oput M k a x) k a y = oput M k a y := by
  refine hx_ext (Sz_oput _ _ _ _) (Sl_oput _ _ _ _) (fun b => Sk_oput _ _ _ _ b) (fun c b => ?_) (fun b => Si_oput _ _ _ _ b) (fun b => Sj_oput _ _ _ _ b) (fun c b => Sr_oput _ _ _ _ c b) (fun b => Sq_oput _ _ _ _ b)
  rw [So_oput, So_oput, So_oput]
  by_cases hz : c = k ∧ b = a
  · rw [if_pos hz, if_pos hz]
  · rw [if_neg hz, if_neg hz, if_neg hz]
theorem qput_qput (M : hx_S) (a : Nat) (x y : Option (List Nat × Nat × Nat × Int32)) : qput (qput M a x) a y = qput M a y := by
  refine hx_ext (Sz_qput _ _ _) (Sl_qput _ _ _) (fun b => Sk_qput _ _ _ b) (fun c b => So_qput _ _ _ c b) (fun b => Si_qput _ _ _ b) (fun b => Sj_qput _ _ _ b) (fun c b => Sr_qput _ _ _ c b) (fun b => ?_)
  rw [Sq_qput, Sq_qput, Sq_qput]
  by_cases hz : b = a
  · rw [if_pos hz, if_pos hz]
  · rw [if_neg hz, if_neg hz, if_neg hz]
theorem iput_iput (M : hx_S) (a : Nat) (x y : Option (Nat × (Nat → Int32))) : iput (iput M a x) a y = iput M a y := by
  refine hx_ext (Sz_iput _ _ _) (Sl_iput _ _ _) (fun b => Sk_iput _ _ _ b) (fun c b => So_iput _ _ _ c b) (fun b => ?_) (fun b => Sj_iput _ _ _ b) (fun c b => Sr_iput _ _ _ c b) (fun b => Sq_iput _ _ _ b)
  rw [Si_iput, Si_iput, Si_iput]
  by_cases hz : b = a
  · rw [if_pos hz, if_pos hz]
  · rw [if_neg hz, if_neg hz, if_neg hz]
theorem jput_jput (M : hx_S) (a : Nat) (x y : Option (Nat × (Nat → Int64))) : jput (jput M a x) a y = jput M a y := by
  refine hx_ext (Sz_jput _ _ _) (Sl_jput _ _ _) (fun b => Sk_jput _ _ _ b) (fun c b => So_jput _ _ _ c b) (fun b => Si_jput _ _ _ b) (fun b => ?_) (fun c b => Sr_jput _ _ _ c b) (fun b => Sq_jput _ _ _ b)
  rw [Sj_jput, Sj_jput, Sj_jput]
  by_cases hz : b = a
  · rw [if_pos hz, if_pos hz]
  · rw [if_neg hz, if_neg hz, if_neg hz]
theorem oput_rput (M : hx_S) (c b k a : Nat) (x : Option (List Value)) (y : Option (Nat × (Nat → Option Nat))) : oput (rput M k a y) c b x = rput (oput M c b x) k a y := rfl
section JR
variable {Kx : Code → Prop} {Fx : hx_S → Option Value → List Frame → State → State → Prop} {G : hx_G} {d lo : Nat} {q : hx_M} {As : List Value} {M0 M M2 : hx_S} {P : Option Value → hx_S → Prop} {pc pc2 : Nat} {L L2 : List (Nat × Value)} {st st2 : List Value}
theorem ct_go (hy : plainName q.1.cls = true) (hn : (lg_sl As).length ≤ q.2.2.1) (hL : lv_args 0 As = L) (h : XW G d lo q As M P M 0 L []) : CT G d lo q As M P := ct_of hy hn (hL ▸ h)
theorem xw_ishr {x y : Int32} (hd : decode q.2.1 pc = .ok (.ishr, 1)) (k : XWg Kx Fx G d lo q As M0 P M (pc + 1) L (.int (x >>> (y &&& 31)) :: st)) : XWg Kx Fx G d lo q As M0 P M pc L (.int y :: .int x :: st) :=
  xw_s (fun p e R s m below meth c Q k n H locs ls hx hb hl kk => lv_ishr hx hb hd (kk ls hl)) k
/-- the empty array that ArrayList's static holds -/
theorem ks_E {s : State} (h : KS G s) : va_Z RJx4a65c "DEFAULTCAPACITY_EMPTY_ELEMENTDATA" "[Ljava/lang/Object;" (.ref (gE G)) (gA G) s s.heap ∧ va_T (.object "java/lang/Object") (gE G) 0 (fun _ => .null) (gA G) s s.heap := h.2.2.2.2.2.1
theorem xw_getE {index : Nat} (hw : Cond.fieldLink q.1.cls index RJx4a65c "DEFAULTCAPACITY_EMPTY_ELEMENTDATA" "[Ljava/lang/Object;" ∈ TW) (hd : decode q.2.1 pc = .ok (.getstatic index, 3)) (kk : XWg Kx Fx G d lo q As M0 P M (pc + 3) L (.ref (gE G) :: st)) : XWg Kx Fx G d lo q As M0 P M pc L st :=
  xw_g (fun p e R s m below meth c Q k' n' C0 hR1 hR2 H locs ls hS hV hl kk => va_gets C0.hx C0.hb (ks_E C0.hks).1 hV C0.hown (C0.hts _ hw) (fun x hx => hx) hd (kk ls hl)) kk
theorem xw_lenE (hd : decode q.2.1 pc = .ok (.arraylength, 1)) (kk : XWg Kx Fx G d lo q As M0 P M (pc + 1) L (.int 0 :: st)) : XWg Kx Fx G d lo q As M0 P M pc L (.ref (gE G) :: st) :=
  xw_g (fun p e R s m below meth c Q k' n' C0 hR1 hR2 H locs ls hS hV hl kk => va_tlen C0.hx C0.hb (ks_E C0.hks).2 hV rfl hd (kk ls hl)) kk
/-- the class object of Object[], as a constant and by getClass -/
theorem xw_ldcM {index : Nat} (hw : Cond.classLink q.1.cls index "[Ljava/lang/Object;" ∈ TW) (hd : decode q.2.1 pc = .ok (.ldc index, 2)) (kk : XWg Kx Fx G d lo q As M0 P M (pc + 2) L (.ref (gM G) :: st)) : XWg Kx Fx G d lo q As M0 P M pc L st :=
  xw_g (fun p e R s m below meth c Q k' n' C0 hR1 hR2 H locs ls hS hV hl kk => va_ldcM C0.hx C0.hb C0.hown (C0.hts _ hw) C0.hks.2.2.2.2.1.1 hd (kk ls hl)) kk
theorem tw_nat : Cond.native ⟨"java/lang/Object", "getClass", "()Ljava/lang/Class;"⟩ ∈ TW := tw_in 326 (by decide +kernel) (by decide +kernel)
theorem tw_ntc : Cond.native arraycopyName ∈ TW := tw_in 338 (by decide +kernel) (by decide +kernel)
theorem xw_getC {a n index : Nat} {f : Nat → Option Nat} (hd : decode q.2.1 pc = .ok (.invokevirtual index, 3)) (h : Sr M 2 a = some (n, f)) (hw : Cond.methodLink q.1.cls index ⟨"java/lang/Object", "getClass", "()Ljava/lang/Class;"⟩ ∈ TW) (hw2 : Cond.selects "[Ljava/lang/Object;" ⟨"java/lang/Object", "getClass", "()Ljava/lang/Class;"⟩ ⟨"java/lang/Object", "getClass", "()Ljava/lang/Class;"⟩ ∈ TW) (hw3 : Cond.instanceMethod ⟨"java/lang/Object", "getClass", "()Ljava/lang/Class;"⟩ ∈ TW)
    (hf : 1 ≤ d) (hlo : (st.map fun v => v.category).sum + 14 ≤ lo) (kk : XWg Kx Fx G d lo q As M0 P M (pc + 3) L (.ref (gM G) :: st)) : XWg Kx Fx G d lo q As M0 P M pc L (.ref a :: st) :=
  xw_g (fun p e R s m below meth c Q k' n' C0 hR1 hR2 H locs ls hS hV hl kk => by
    obtain ⟨_, h3, _, hc⟩ := hS.2.2.2.2.1 2 a _ h
    have hnm : s.vm.findClass "[Ljava/lang/Object;" = some (gR G 2) := va_nmO (gT_r C0.hK h3).2 (by decide +kernel)
    exact va_getC C0.hx C0.hb (by rw [C0.hml]; exact hl.1.symm) C0.hown (C0.hts _ hw) (va_Dc.use C0.hks.2.2.2.2.1.2) (C0.hts _ hw2) (C0.hts _ hw3) (C0.hts _ tw_nat) C0.hks.2.2.2.2.1.1 ⟨_, hc, rfl, hnm⟩ (by rw [← hR1]; exact hf) (by rw [← hR2]; exact hlo) hd (kk ls hl)) kk
theorem nfw_copy : nativeFrameWords "java/lang/System" "arraycopy" 5 = 7 := by decide
/-- System.arraycopy of references whose class fits Object -/
theorem xw_copy {a0 a n0 n1 ci N index : Nat} {f g : Nat → Option Nat} {sp dp n : Int32} {C : String} {T0 : u_T} (hd : decode q.2.1 pc = .ok (.invokestatic index, 3)) (hs0 : Sr M 2 a0 = some (n0, f)) (hs1 : Sr M 2 a = some (n1, g)) (h1 : ¬ sp < 0) (h2 : ¬ dp < 0) (h3 : ¬ n < 0) (h4 : sp.toNatClampNeg + n.toNatClampNeg ≤ n0) (h5 : dp.toNatClampNeg + n.toNatClampNeg ≤ n1)
    (hc0 : vwCl[ci]? = some (C, T0, N)) (hcast : ∀ s : State, KS G s → va_Nw (.castable C "java/lang/Object") s) (hel : ∀ i : Nat, i < n.toNatClampNeg → ∀ y : Nat, f (sp.toNatClampNeg + i) = some y → ∃ vs, So M ci y = some vs)
    (hw : Cond.methodLink q.1.cls index arraycopyName ∈ TW) (hw2 : Cond.static arraycopyName ∈ TW) (hw3 : Cond.initialized "java/lang/System" ∈ TW) (hf : 1 ≤ d) (hlo : (st.map fun v => v.category).sum + 18 ≤ lo)
    (kk : XWg Kx Fx G d lo q As M0 P (rput M 2 a (some (n1, va_cpy f g sp.toNatClampNeg dp.toNatClampNeg n.toNatClampNeg))) (pc + 3) L st) : XWg Kx Fx G d lo q As M0 P M pc L (.int n :: .int dp :: .ref a :: .int sp :: .ref a0 :: st) := by
  refine xw_h (M2 := rput M 2 a (some (n1, va_cpy f g sp.toNatClampNeg dp.toNatClampNeg n.toNatClampNeg))) (fun hwf => Wf.rset hwf hs1) 0 0 rfl rfl (fun p e R s m below meth c Q k' n' C0 hR1 hR2 hz hs H locs ls hS hV hl kk => ?_) kk
  have nn : ∀ z : Int32, ¬ z < 0 → z.toInt = (z.toNatClampNeg : Int) := by
    intro z hz
    have hz0 : (0 : Int) ≤ z.toInt := by
      have := Int32.not_lt.mp hz
      simpa using Int32.le_iff_toInt_le.mp this
    show z.toInt = ((z.toInt.toNat : Nat) : Int)
    omega
  intro T hT X
  obtain ⟨-, -, -, hc0'⟩ := hS.2.2.2.2.1 2 a0 _ hs0
  obtain ⟨-, hk3, hA1, hc1'⟩ := hS.2.2.2.2.1 2 a _ hs1
  have hK := C0.hK
  obtain ⟨-, k0, hk0, cm0, hkk0⟩ := (gT_r hK hk3).1 n0 (fun j => va_rf (f j))
  obtain ⟨-, k1, hk1, cm1, hkk1⟩ := (gT_r hK hk3).1 n1 (fun j => va_rf (g j))
  obtain ⟨vm', X', step⟩ := X.arraycopy C0.hx C0.hown (C0.hts _ hw) (C0.hts _ tw_ntc) (C0.hts _ hw2) (C0.hts _ hw3) (src := a0) (dst := a) (srcPos := sp) (destPos := dp) (n := n) (by rw [hT]; exact hc0') (by rw [hT]; exact hc1')
    (fun _ h => by cases h) (fun _ h => by cases h) (fun h => by cases h) (fun h => by cases h) hk0 hk1 hkk0 hkk1 rfl h1 h2 h3
    (by rw [nn sp h1, nn n h3, arrV_size]; show ¬ _ > ((n0 : Nat) : Int); omega)
    (by rw [nn dp h2, nn n h3, arrV_size]; show ¬ _ > ((n1 : Nat) : Int); omega)
    (fun vm₁ hal i hi => by
      rw [Array.getD_eq_getD_getElem?, arrV_read _ _ (show sp.toNatClampNeg + i < n0 by omega)]
      show fits _ (va_rf (f (sp.toNatClampNeg + i))) = true ∧ State.takes _ _ (va_rf (f (sp.toNatClampNeg + i)))
      cases hy : f (sp.toNatClampNeg + i) with
      | none => exact ⟨rfl, trivial⟩
      | some y =>
        obtain ⟨vs, hso⟩ := hel i hi y hy
        obtain ⟨cellV, g1, g2, g3⟩ := va_recv hK (va_P1 (hS.2.1 ci y vs hso).2.2.2) hc0 (q0 := 0) rfl
        obtain ⟨kA, comp, r1, r2, r3, -⟩ := (gT_r hK hk3).2
        cases hk1.symm.trans r1
        cases hkk1.symm.trans r2
        obtain ⟨kC, hkC, -⟩ := Vm.findClass_spec g3
        obtain ⟨kE, hkE, -⟩ := Vm.findClass_spec r3
        obtain ⟨kC', hkC', -⟩ := hal.2.2 _ _ hkC
        obtain ⟨kE', hkE', -⟩ := hal.2.2 _ _ hkE
        refine ⟨rfl, cellV, (show T.heap[y]? = some cellV by rw [hT]; exact g1), (fun q h => by rw [h] at g2; cases g2), ⟨kC', hkC'⟩, ?_, ?_⟩
        · exact ⟨kE', hkE'⟩
        · show vm₁.assignable _ _ = true
          rw [hal.assignable]
          exact fit_cast hcast s C0.hks _ _ g3 r3)
    (g := F0 m pc ls (.int n :: .int dp :: .ref a :: .int sp :: .ref a0 :: st)) rfl (by rw [C0.hml]; exact hl.1) (rest := st) rfl (by rw [C0.hb]; exact hd) (by rw [← hR1]; exact hf) (by rw [← hR2, nfw_copy]; show 2 * 0 + _ + _ ≤ lo; omega)
  have e1 : copied (arrV (gR G 2) n0 (fun j => va_rf (f j))) (arrV (gR G 2) n1 (fun j => va_rf (g j))) sp dp n = arrV (gR G 2) n1 (fun j => va_rf (va_cpy f g sp.toNatClampNeg dp.toNatClampNeg n.toNatClampNeg j)) := va_copied (fun z => va_rf z) _ _ f g h4
  have X' := (show Stand _ _ _ _ _ _ _ _ _ _ ((T.setVm vm').setCell a (arrV (gR G 2) n1 (fun j => va_rf (va_cpy f g sp.toNatClampNeg dp.toNatClampNeg n.toNatClampNeg j)))) _ _ _ by rw [← e1]; exact X')
  have step' : ∀ target, Steps p.tables e below (((T.setVm vm').setCell a (arrV (gR G 2) n1 (fun j => va_rf (va_cpy f g sp.toNatClampNeg dp.toNatClampNeg n.toNatClampNeg j)))).setTop (F0 m (pc + 3) ls st)) target → Steps p.tables e below (T.setTop (F0 m pc ls (.int n :: .int dp :: .ref a :: .int sp :: .ref a0 :: st))) target := by
    rw [← e1]
    exact step
  have hl2 : a < H.size := hc_lt hc1'
  have hheap : ((T.setVm vm').setCell a (arrV (gR G 2) n1 (fun j => va_rf (va_cpy f g sp.toNatClampNeg dp.toNatClampNeg n.toNatClampNeg j)))).heap = H.setIfInBounds a (arrV (gR G 2) n1 (fun j => va_rf (va_cpy f g sp.toNatClampNeg dp.toNatClampNeg n.toNatClampNeg j))) := by rw [← hT]; rfl
  have oq : ∀ q : Nat, q ≠ a → (H.setIfInBounds a (arrV (gR G 2) n1 (fun j => va_rf (va_cpy f g sp.toNatClampNeg dp.toNatClampNeg n.toNatClampNeg j))))[q]? = H[q]? := fun q hq => by simp [Array.getElem?_setIfInBounds, Ne.symm hq]
  obtain ⟨t, a1, b1⟩ := kk _ _ ls (Sh.rset hS hs1 (by simp) oq (show (H.setIfInBounds a _)[a]? = some _ by simp [hl2])) ⟨by simp; exact hV.1, fun q g1 g2 => by
      rw [oq q (fun e => g2 (by rw [e]; exact hA1))]
      exact hV.2.1 q g1 g2, fun q hq => by
      rcases List.mem_append.mp hq with h | h
      · exact hV.2.2 q h
      · obtain ⟨z, -, hz⟩ := List.mem_map.mp h
        rw [← hz]
        exact hA1⟩ hl _ hheap X'
  exact ⟨t, step' t a1, b1⟩
end JR
