/-! THE START: what the Statement gives of it -/
section START
variable {p : Program} {l : Launch} {e : Env} {s : State} {m : MethodId} {below : List Frame} {meth : Method} {c : Code} {args : Array Value}
theorem room_mono {pl : Platform} {R R' : Room} (h : s.hasRoom pl R = true) (h1 : R'.frames ≤ R.frames) (h2 : R'.locals ≤ R.locals) (h3 : R'.cells ≤ R.cells) (h4 : R'.slots ≤ R.slots) : s.hasRoom pl R' = true := by
  simp only [State.hasRoom, Bool.and_eq_true, decide_eq_true_eq] at h ⊢
  obtain ⟨⟨⟨⟨q1, q2, q3, q4, q5, q6⟩, q7⟩, q8⟩, q9⟩ := h
  exact ⟨⟨⟨⟨by omega, by omega, by omega, by omega, by omega, q6⟩, by omega⟩, by omega⟩, q9⟩
theorem arr_I (h : (Cond.arrayClass .int).before args s = true) : ∃ cA, ArrOfT s cA .int ∧ va_RA s cA .int := by
  obtain ⟨c, k, comp, h1, h2, h3⟩ := Cond.arrayClass_spec h
  exact ⟨c, fun n z => ⟨fun _ q => (by cases q), k, h2, comp, h3⟩, h1⟩
theorem arr_J (h : (Cond.arrayClass .long).before args s = true) : ∃ cA, ArrOfT s cA .long ∧ va_RA s cA .long := by
  obtain ⟨c, k, comp, h1, h2, h3⟩ := Cond.arrayClass_spec h
  exact ⟨c, fun n z => ⟨fun _ q => (by cases q), k, h2, comp, h3⟩, h1⟩
theorem arr_O {C : String} (h : (Cond.arrayOver (.object C)).before args s = true) : ∃ cA, ArrOfT s cA (.object C) ∧ va_RA s cA (.object C) := by
  obtain ⟨comp, c, k, h1, -, h2, h3, h4⟩ := Cond.arrayOver_spec h
  exact ⟨c, fun n z => ⟨fun _ q => (by cases q), k, h2, comp, h3⟩, k, comp, h2, h3, h1, h4⟩
theorem st_kn (hT : ∀ w ∈ TW, w.before args s = true) : ∃ (dC : Nat → ClassId) (dI : Nat → Nat → Nat), ∀ (k : Nat) (q : vw_C), vwCl[k]? = some q → u_Kn s q.1 q.2.1 q.2.2 (dC k) (dI k) := by
  obtain ⟨c0, i0, h0⟩ := u_known (C := RJx4a65c) (T := TJx4a65c) (N := 3) (n := 3) hT inJx4a65c (hT _ tw_91)
  obtain ⟨c1, i1, h1⟩ := u_known (C := RX0) (T := TX0) (N := 3) (n := 3) hT inX0 (hT _ tw_261)
  obtain ⟨c2, i2, h2⟩ := u_known (C := RX1) (T := TX1) (N := 2) (n := 2) hT inX1 (hT _ tw_689)
  obtain ⟨c3, i3, h3⟩ := u_known (C := RX2) (T := TX2) (N := 4) (n := 4) hT inX2 (hT _ tw_159)
  obtain ⟨c4, i4, h4⟩ := u_known (C := RX3) (T := TX3) (N := 4) (n := 4) hT inX3 (hT _ tw_135)
  obtain ⟨c5, i5, h5⟩ := u_known (C := RX4) (T := TX4) (N := 5) (n := 5) hT inX4 (hT _ tw_368)
  obtain ⟨c6, i6, h6⟩ := u_known (C := RX5) (T := TX5) (N := 3) (n := 3) hT inX5 (hT _ tw_117)
  obtain ⟨c7, i7, h7⟩ := u_known (C := RX6) (T := TX6) (N := 8) (n := 8) hT inX6 (hT _ tw_562)
  obtain ⟨c8, i8, h8⟩ := u_known (C := RX7) (T := TX7) (N := 2) (n := 2) hT inX7 (hT _ tw_725)
  obtain ⟨c9, i9, h9⟩ := u_known (C := RX8) (T := TX8) (N := 2) (n := 2) hT inX8 (hT _ tw_74)
  obtain ⟨c10, i10, h10⟩ := u_known (C := RX9) (T := TX9) (N := 13) (n := 13) hT inX9 (hT _ tw_66)
  obtain ⟨c11, i11, h11⟩ := u_known (C := RX10) (T := TX10) (N := 41) (n := 41) hT inX10 (hT _ tw_786)
  refine ⟨fun k => if k = 0 then c0 else if k = 1 then c1 else if k = 2 then c2 else if k = 3 then c3 else if k = 4 then c4 else if k = 5 then c5 else if k = 6 then c6 else if k = 7 then c7 else if k = 8 then c8 else if k = 9 then c9 else if k = 10 then c10 else c11, fun k => if k = 0 then i0 else if k = 1 then i1 else if k = 2 then i2 else if k = 3 then i3 else if k = 4 then i4 else if k = 5 then i5 else if k = 6 then i6 else if k = 7 then i7 else if k = 8 then i8 else if k = 9 then i9 else if k = 10 then i10 else i11, ?_⟩
  intro k q hq
  match k, hq with
  | 0, hq => cases hq; exact h0
  | 1, hq => cases hq; exact h1
  | 2, hq => cases hq; exact h2
  | 3, hq => cases hq; exact h3
  | 4, hq => cases hq; exact h4
  | 5, hq => cases hq; exact h5
  | 6, hq => cases hq; exact h6
  | 7, hq => cases hq; exact h7
  | 8, hq => cases hq; exact h8
  | 9, hq => cases hq; exact h9
  | 10, hq => cases hq; exact h10
  | 11, hq => cases hq; exact h11
  | k + 12, hq => simp [vwCl] at hq
theorem st_tabP {A : Nat → Prop} (hts : ∀ w ∈ lw_tbl, w.before args s = true) (hg : (Jvm.Cond.and given_1 narrow_1).before args s = true) (hA : ∀ a : Nat, a < s.heap.size → ¬ A a) : ∃ t, va_Z RX9 "PORTS" "[I" (.ref t) A s s.heap ∧ va_T .int t 18 (fun j => .int (tabP.getD j 0)) A s s.heap := by
  have hs := flat_of_before _ hg
  obtain ⟨t, ht, hT⟩ := va_Tof (tm := .static RX9 "PORTS" "[I") (ty := .int) (N := 18) (f := fun j => .int (tabP.getD j 0)) (A := A) (by decide) (hs _ (by decide +kernel)) (va_eqt (z := 18) (hs _ (by decide +kernel))) (fun j hj => by
    rcases (show j = 0 ∨ j = 1 ∨ j = 2 ∨ j = 3 ∨ j = 4 ∨ j = 5 ∨ j = 6 ∨ j = 7 ∨ j = 8 ∨ j = 9 ∨ j = 10 ∨ j = 11 ∨ j = 12 ∨ j = 13 ∨ j = 14 ∨ j = 15 ∨ j = 16 ∨ j = 17 by omega) with rfl | rfl | rfl | rfl | rfl | rfl | rfl | rfl | rfl | rfl | rfl | rfl | rfl | rfl | rfl | rfl | rfl | rfl
    · exact va_eqt (z := 1) (hs (.eq (.elem (.static "TokenHouse" "PORTS" "[I") (.int 0)) (.int 1)) (by decide +kernel))
    · exact va_eqt (z := 2) (hs (.eq (.elem (.static "TokenHouse" "PORTS" "[I") (.int 1)) (.int 2)) (by decide +kernel))
    · exact va_eqt (z := 2) (hs (.eq (.elem (.static "TokenHouse" "PORTS" "[I") (.int 2)) (.int 2)) (by decide +kernel))
    · exact va_eqt (z := 2) (hs (.eq (.elem (.static "TokenHouse" "PORTS" "[I") (.int 3)) (.int 2)) (by decide +kernel))
    · exact va_eqt (z := 2) (hs (.eq (.elem (.static "TokenHouse" "PORTS" "[I") (.int 4)) (.int 2)) (by decide +kernel))
    · exact va_eqt (z := 2) (hs (.eq (.elem (.static "TokenHouse" "PORTS" "[I") (.int 5)) (.int 2)) (by decide +kernel))
    · exact va_eqt (z := 1) (hs (.eq (.elem (.static "TokenHouse" "PORTS" "[I") (.int 6)) (.int 1)) (by decide +kernel))
    · exact va_eqt (z := 2) (hs (.eq (.elem (.static "TokenHouse" "PORTS" "[I") (.int 7)) (.int 2)) (by decide +kernel))
    · exact va_eqt (z := 1) (hs (.eq (.elem (.static "TokenHouse" "PORTS" "[I") (.int 8)) (.int 1)) (by decide +kernel))
    · exact va_eqt (z := 1) (hs (.eq (.elem (.static "TokenHouse" "PORTS" "[I") (.int 9)) (.int 1)) (by decide +kernel))
    · exact va_eqt (z := 1) (hs (.eq (.elem (.static "TokenHouse" "PORTS" "[I") (.int 10)) (.int 1)) (by decide +kernel))
    · exact va_eqt (z := 1) (hs (.eq (.elem (.static "TokenHouse" "PORTS" "[I") (.int 11)) (.int 1)) (by decide +kernel))
    · exact va_eqt (z := 1) (hs (.eq (.elem (.static "TokenHouse" "PORTS" "[I") (.int 12)) (.int 1)) (by decide +kernel))
    · exact va_eqt (z := 1) (hs (.eq (.elem (.static "TokenHouse" "PORTS" "[I") (.int 13)) (.int 1)) (by decide +kernel))
    · exact va_eqt (z := 1) (hs (.eq (.elem (.static "TokenHouse" "PORTS" "[I") (.int 14)) (.int 1)) (by decide +kernel))
    · exact va_eqt (z := 2) (hs (.eq (.elem (.static "TokenHouse" "PORTS" "[I") (.int 15)) (.int 2)) (by decide +kernel))
    · exact va_eqt (z := 3) (hs (.eq (.elem (.static "TokenHouse" "PORTS" "[I") (.int 16)) (.int 3)) (by decide +kernel))
    · exact va_eqt (z := 1) (hs (.eq (.elem (.static "TokenHouse" "PORTS" "[I") (.int 17)) (.int 1)) (by decide +kernel))
    ) hA
  exact ⟨t, va_Zof (hts (.laysStatic "TokenHouse" "PORTS" "[I") (by decide +kernel)) (hts (.initialized "TokenHouse") (by decide +kernel)) ht hA, hT⟩
theorem st_tabX {A : Nat → Prop} (hts : ∀ w ∈ lw_tbl, w.before args s = true) (hg : (Jvm.Cond.and given_1 narrow_1).before args s = true) (hA : ∀ a : Nat, a < s.heap.size → ¬ A a) : ∃ t, va_Z RX9 "WANTED_X" "[I" (.ref t) A s s.heap ∧ va_T .int t 18 (fun j => .int (tabX.getD j 0)) A s s.heap := by
  have hs := flat_of_before _ hg
  obtain ⟨t, ht, hT⟩ := va_Tof (tm := .static RX9 "WANTED_X" "[I") (ty := .int) (N := 18) (f := fun j => .int (tabX.getD j 0)) (A := A) (by decide) (hs _ (by decide +kernel)) (va_eqt (z := 18) (hs _ (by decide +kernel))) (fun j hj => by
    rcases (show j = 0 ∨ j = 1 ∨ j = 2 ∨ j = 3 ∨ j = 4 ∨ j = 5 ∨ j = 6 ∨ j = 7 ∨ j = 8 ∨ j = 9 ∨ j = 10 ∨ j = 11 ∨ j = 12 ∨ j = 13 ∨ j = 14 ∨ j = 15 ∨ j = 16 ∨ j = 17 by omega) with rfl | rfl | rfl | rfl | rfl | rfl | rfl | rfl | rfl | rfl | rfl | rfl | rfl | rfl | rfl | rfl | rfl | rfl
    · exact va_eqt (z := 0) (hs (.eq (.elem (.static "TokenHouse" "WANTED_X" "[I") (.int 0)) (.int 0)) (by decide +kernel))
    · exact va_eqt (z := 2) (hs (.eq (.elem (.static "TokenHouse" "WANTED_X" "[I") (.int 1)) (.int 2)) (by decide +kernel))
    · exact va_eqt (z := 2) (hs (.eq (.elem (.static "TokenHouse" "WANTED_X" "[I") (.int 2)) (.int 2)) (by decide +kernel))
    · exact va_eqt (z := 2) (hs (.eq (.elem (.static "TokenHouse" "WANTED_X" "[I") (.int 3)) (.int 2)) (by decide +kernel))
    · exact va_eqt (z := 2) (hs (.eq (.elem (.static "TokenHouse" "WANTED_X" "[I") (.int 4)) (.int 2)) (by decide +kernel))
    · exact va_eqt (z := 2) (hs (.eq (.elem (.static "TokenHouse" "WANTED_X" "[I") (.int 5)) (.int 2)) (by decide +kernel))
    · exact va_eqt (z := 1) (hs (.eq (.elem (.static "TokenHouse" "WANTED_X" "[I") (.int 6)) (.int 1)) (by decide +kernel))
    · exact va_eqt (z := 0) (hs (.eq (.elem (.static "TokenHouse" "WANTED_X" "[I") (.int 7)) (.int 0)) (by decide +kernel))
    · exact va_eqt (z := 0) (hs (.eq (.elem (.static "TokenHouse" "WANTED_X" "[I") (.int 8)) (.int 0)) (by decide +kernel))
    · exact va_eqt (z := 0) (hs (.eq (.elem (.static "TokenHouse" "WANTED_X" "[I") (.int 9)) (.int 0)) (by decide +kernel))
    · exact va_eqt (z := 0) (hs (.eq (.elem (.static "TokenHouse" "WANTED_X" "[I") (.int 10)) (.int 0)) (by decide +kernel))
    · exact va_eqt (z := 0) (hs (.eq (.elem (.static "TokenHouse" "WANTED_X" "[I") (.int 11)) (.int 0)) (by decide +kernel))
    · exact va_eqt (z := 0) (hs (.eq (.elem (.static "TokenHouse" "WANTED_X" "[I") (.int 12)) (.int 0)) (by decide +kernel))
    · exact va_eqt (z := 0) (hs (.eq (.elem (.static "TokenHouse" "WANTED_X" "[I") (.int 13)) (.int 0)) (by decide +kernel))
    · exact va_eqt (z := 2) (hs (.eq (.elem (.static "TokenHouse" "WANTED_X" "[I") (.int 14)) (.int 2)) (by decide +kernel))
    · exact va_eqt (z := 3) (hs (.eq (.elem (.static "TokenHouse" "WANTED_X" "[I") (.int 15)) (.int 3)) (by decide +kernel))
    · exact va_eqt (z := 3) (hs (.eq (.elem (.static "TokenHouse" "WANTED_X" "[I") (.int 16)) (.int 3)) (by decide +kernel))
    · exact va_eqt (z := 0) (hs (.eq (.elem (.static "TokenHouse" "WANTED_X" "[I") (.int 17)) (.int 0)) (by decide +kernel))
    ) hA
  exact ⟨t, va_Zof (hts (.laysStatic "TokenHouse" "WANTED_X" "[I") (by decide +kernel)) (hts (.initialized "TokenHouse") (by decide +kernel)) ht hA, hT⟩
theorem st_tabY {A : Nat → Prop} (hts : ∀ w ∈ lw_tbl, w.before args s = true) (hg : (Jvm.Cond.and given_1 narrow_1).before args s = true) (hA : ∀ a : Nat, a < s.heap.size → ¬ A a) : ∃ t, va_Z RX9 "WANTED_Y" "[I" (.ref t) A s s.heap ∧ va_T .int t 18 (fun j => .int (tabY.getD j 0)) A s s.heap := by
  have hs := flat_of_before _ hg
  obtain ⟨t, ht, hT⟩ := va_Tof (tm := .static RX9 "WANTED_Y" "[I") (ty := .int) (N := 18) (f := fun j => .int (tabY.getD j 0)) (A := A) (by decide) (hs _ (by decide +kernel)) (va_eqt (z := 18) (hs _ (by decide +kernel))) (fun j hj => by
    rcases (show j = 0 ∨ j = 1 ∨ j = 2 ∨ j = 3 ∨ j = 4 ∨ j = 5 ∨ j = 6 ∨ j = 7 ∨ j = 8 ∨ j = 9 ∨ j = 10 ∨ j = 11 ∨ j = 12 ∨ j = 13 ∨ j = 14 ∨ j = 15 ∨ j = 16 ∨ j = 17 by omega) with rfl | rfl | rfl | rfl | rfl | rfl | rfl | rfl | rfl | rfl | rfl | rfl | rfl | rfl | rfl | rfl | rfl | rfl
    · exact va_eqt (z := 0) (hs (.eq (.elem (.static "TokenHouse" "WANTED_Y" "[I") (.int 0)) (.int 0)) (by decide +kernel))
    · exact va_eqt (z := 2) (hs (.eq (.elem (.static "TokenHouse" "WANTED_Y" "[I") (.int 1)) (.int 2)) (by decide +kernel))
    · exact va_eqt (z := 2) (hs (.eq (.elem (.static "TokenHouse" "WANTED_Y" "[I") (.int 2)) (.int 2)) (by decide +kernel))
    · exact va_eqt (z := 2) (hs (.eq (.elem (.static "TokenHouse" "WANTED_Y" "[I") (.int 3)) (.int 2)) (by decide +kernel))
    · exact va_eqt (z := 2) (hs (.eq (.elem (.static "TokenHouse" "WANTED_Y" "[I") (.int 4)) (.int 2)) (by decide +kernel))
    · exact va_eqt (z := 2) (hs (.eq (.elem (.static "TokenHouse" "WANTED_Y" "[I") (.int 5)) (.int 2)) (by decide +kernel))
    · exact va_eqt (z := 0) (hs (.eq (.elem (.static "TokenHouse" "WANTED_Y" "[I") (.int 6)) (.int 0)) (by decide +kernel))
    · exact va_eqt (z := 0) (hs (.eq (.elem (.static "TokenHouse" "WANTED_Y" "[I") (.int 7)) (.int 0)) (by decide +kernel))
    · exact va_eqt (z := 0) (hs (.eq (.elem (.static "TokenHouse" "WANTED_Y" "[I") (.int 8)) (.int 0)) (by decide +kernel))
    · exact va_eqt (z := 0) (hs (.eq (.elem (.static "TokenHouse" "WANTED_Y" "[I") (.int 9)) (.int 0)) (by decide +kernel))
    · exact va_eqt (z := 0) (hs (.eq (.elem (.static "TokenHouse" "WANTED_Y" "[I") (.int 10)) (.int 0)) (by decide +kernel))
    · exact va_eqt (z := 0) (hs (.eq (.elem (.static "TokenHouse" "WANTED_Y" "[I") (.int 11)) (.int 0)) (by decide +kernel))
    · exact va_eqt (z := 0) (hs (.eq (.elem (.static "TokenHouse" "WANTED_Y" "[I") (.int 12)) (.int 0)) (by decide +kernel))
    · exact va_eqt (z := 0) (hs (.eq (.elem (.static "TokenHouse" "WANTED_Y" "[I") (.int 13)) (.int 0)) (by decide +kernel))
    · exact va_eqt (z := 0) (hs (.eq (.elem (.static "TokenHouse" "WANTED_Y" "[I") (.int 14)) (.int 0)) (by decide +kernel))
    · exact va_eqt (z := 2) (hs (.eq (.elem (.static "TokenHouse" "WANTED_Y" "[I") (.int 15)) (.int 2)) (by decide +kernel))
    · exact va_eqt (z := 2) (hs (.eq (.elem (.static "TokenHouse" "WANTED_Y" "[I") (.int 16)) (.int 2)) (by decide +kernel))
    · exact va_eqt (z := 0) (hs (.eq (.elem (.static "TokenHouse" "WANTED_Y" "[I") (.int 17)) (.int 0)) (by decide +kernel))
    ) hA
  exact ⟨t, va_Zof (hts (.laysStatic "TokenHouse" "WANTED_Y" "[I") (by decide +kernel)) (hts (.initialized "TokenHouse") (by decide +kernel)) ht hA, hT⟩
theorem st_E {A : Nat → Prop} (hts : ∀ w ∈ lw_tbl, w.before args s = true) (hg : (Jvm.Cond.and given_1 narrow_1).before args s = true) (hA : ∀ a : Nat, a < s.heap.size → ¬ A a) : ∃ t, va_Z RJx4a65c "DEFAULTCAPACITY_EMPTY_ELEMENTDATA" "[Ljava/lang/Object;" (.ref t) A s s.heap ∧ va_T (.object "java/lang/Object") t 0 (fun _ => .null) A s s.heap := by
  have hs := flat_of_before _ hg
  obtain ⟨t, ht, hT⟩ := va_Tof (tm := .static RJx4a65c "DEFAULTCAPACITY_EMPTY_ELEMENTDATA" "[Ljava/lang/Object;") (ty := .object "java/lang/Object") (N := 0) (f := fun _ => .null) (A := A) (by decide) (hs _ (by decide +kernel)) (va_eqt (z := 0) (hs _ (by decide +kernel))) (fun j hj => absurd hj (Nat.not_lt_zero _)) hA
  exact ⟨t, va_Zof (hts (.laysStatic "java/util/ArrayList" "DEFAULTCAPACITY_EMPTY_ELEMENTDATA" "[Ljava/lang/Object;") (by decide +kernel)) (hts (.initialized "java/util/ArrayList") (by decide +kernel)) ht hA, hT⟩
theorem st_str {k : Nat} {tx : String} (h : (Cond.stringRef "TokenHouse" k tx).before args s = true) (h2 : (Cond.exactly (.string "TokenHouse" k) "java/lang/String").before args s = true) : ∃ sa, vk_R "TokenHouse" k tx sa s := by
  obtain ⟨a, -, -, -, ha, -⟩ := Cond.exactly_spec h2
  exact ⟨a, vk_R.of h ha⟩
theorem st_KX {A : Nat → Prop} (hts : ∀ w ∈ lw_tbl, w.before args s = true) (hg : (Jvm.Cond.and given_1 narrow_1).before args s = true) (hA : ∀ a : Nat, a < s.heap.size → ¬ A a) : KX A s := by
  have hs := flat_of_before _ hg
  refine ⟨vx_Zqof (hts _ (by decide +kernel)) (hts _ (by decide +kernel)) (hs _ (by decide +kernel)) hA, vx_Zqof (hts _ (by decide +kernel)) (hts _ (by decide +kernel)) (hs _ (by decide +kernel)) hA, fun w hw => ?_, va_Nc.of (args := args) (hs (.not (.castable xS xA)) (by decide +kernel)), fun x hx => ?_⟩
  · exact va_Nw.of (xB_on w hw) (hts w (by
      have h : xB.all (fun w => decide (w ∈ lw_tbl)) = true := by decide +kernel
      have := List.all_eq_true.mp h w hw
      simpa using this))
  · simp only [xTx, List.mem_cons, List.not_mem_nil, or_false] at hx
    rcases hx with rfl | rfl | rfl | rfl | rfl | rfl | rfl <;> exact st_str (hts _ (by decide +kernel)) (hs _ (by decide +kernel))
end START
