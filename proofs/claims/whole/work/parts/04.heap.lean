/-! THE PURE HEAP: size, slots used, the kind of each address; objects by class number and address; int arrays; long arrays; arrays of references by kind (0 Cell, 1 Value, 2 Object); lists (what they hold, capacity, address of the data array, modCount) -/
abbrev hx_S : Type := (Nat) × (Nat) × (Nat → Nat) × (Nat → Nat → Option (List Value)) × (Nat → Option (Nat × (Nat → Int32))) × (Nat → Option (Nat × (Nat → Int64))) × (Nat → Nat → Option (Nat × (Nat → Option Nat))) × (Nat → Option (List Nat × Nat × Nat × Int32))
def Sz (M : hx_S) : Nat := M.1
def Sl (M : hx_S) : Nat := M.2.1
def Sk (M : hx_S) : Nat → Nat := M.2.2.1
def So (M : hx_S) : Nat → Nat → Option (List Value) := M.2.2.2.1
def Si (M : hx_S) : Nat → Option (Nat × (Nat → Int32)) := M.2.2.2.2.1
def Sj (M : hx_S) : Nat → Option (Nat × (Nat → Int64)) := M.2.2.2.2.2.1
def Sr (M : hx_S) : Nat → Nat → Option (Nat × (Nat → Option Nat)) := M.2.2.2.2.2.2.1
def Sq (M : hx_S) : Nat → Option (List Nat × Nat × Nat × Int32) := M.2.2.2.2.2.2.2
def oput (M : hx_S) (ci a : Nat) (x : Option (List Value)) : hx_S := (Sz M, Sl M, Sk M, (fun c b => if c = ci ∧ b = a then x else So M c b), Si M, Sj M, Sr M, Sq M)
def iput (M : hx_S) (a : Nat) (x : Option (Nat × (Nat → Int32))) : hx_S := (Sz M, Sl M, Sk M, So M, (fun b => if b = a then x else Si M b), Sj M, Sr M, Sq M)
def jput (M : hx_S) (a : Nat) (x : Option (Nat × (Nat → Int64))) : hx_S := (Sz M, Sl M, Sk M, So M, Si M, (fun b => if b = a then x else Sj M b), Sr M, Sq M)
def rput (M : hx_S) (k a : Nat) (x : Option (Nat × (Nat → Option Nat))) : hx_S := (Sz M, Sl M, Sk M, So M, Si M, Sj M, (fun c b => if c = k ∧ b = a then x else Sr M c b), Sq M)
def qput (M : hx_S) (a : Nat) (x : Option (List Nat × Nat × Nat × Int32)) : hx_S := (Sz M, Sl M, Sk M, So M, Si M, Sj M, Sr M, (fun b => if b = a then x else Sq M b))
def kput (M : hx_S) (a k : Nat) : hx_S := (Sz M, Sl M, (fun b => if b = a then k else Sk M b), So M, Si M, Sj M, Sr M, Sq M)
def grow (M : hx_S) (n k : Nat) : hx_S := ((Sz M + 1), (Sl M + n), (fun b => if b = Sz M then k else Sk M b), So M, Si M, Sj M, Sr M, Sq M)
theorem Sz_oput (M : hx_S) (ci a : Nat) (x : Option (List Value)) : Sz (oput M ci a x) = Sz M := rfl
theorem Sl_oput (M : hx_S) (ci a : Nat) (x : Option (List Value)) : Sl (oput M ci a x) = Sl M := rfl
theorem Sk_oput (M : hx_S) (ci a : Nat) (x : Option (List Value)) (b : Nat) : Sk (oput M ci a x) b = Sk M b := rfl
theorem So_oput (M : hx_S) (ci a : Nat) (x : Option (List Value)) (c b : Nat) : So (oput M ci a x) c b = if c = ci ∧ b = a then x else So M c b := rfl
theorem Si_oput (M : hx_S) (ci a : Nat) (x : Option (List Value)) (b : Nat) : Si (oput M ci a x) b = Si M b := rfl
theorem Sj_oput (M : hx_S) (ci a : Nat) (x : Option (List Value)) (b : Nat) : Sj (oput M ci a x) b = Sj M b := rfl
theorem Sr_oput (M : hx_S) (ci a : Nat) (x : Option (List Value)) (c b : Nat) : Sr (oput M ci a x) c b = Sr M c b := rfl
theorem Sq_oput (M : hx_S) (ci a : Nat) (x : Option (List Value)) (b : Nat) : Sq (oput M ci a x) b = Sq M b := rfl
theorem Sz_iput (M : hx_S) (a : Nat) (x : Option (Nat × (Nat → Int32))) : Sz (iput M a x) = Sz M := rfl
theorem Sl_iput (M : hx_S) (a : Nat) (x : Option (Nat × (Nat → Int32))) : Sl (iput M a x) = Sl M := rfl
theorem Sk_iput (M : hx_S) (a : Nat) (x : Option (Nat × (Nat → Int32))) (b : Nat) : Sk (iput M a x) b = Sk M b := rfl
theorem So_iput (M : hx_S) (a : Nat) (x : Option (Nat × (Nat → Int32))) (c b : Nat) : So (iput M a x) c b = So M c b := rfl
theorem Si_iput (M : hx_S) (a : Nat) (x : Option (Nat × (Nat → Int32))) (b : Nat) : Si (iput M a x) b = if b = a then x else Si M b := rfl
theorem Sj_iput (M : hx_S) (a : Nat) (x : Option (Nat × (Nat → Int32))) (b : Nat) : Sj (iput M a x) b = Sj M b := rfl
theorem Sr_iput (M : hx_S) (a : Nat) (x : Option (Nat × (Nat → Int32))) (c b : Nat) : Sr (iput M a x) c b = Sr M c b := rfl
theorem Sq_iput (M : hx_S) (a : Nat) (x : Option (Nat × (Nat → Int32))) (b : Nat) : Sq (iput M a x) b = Sq M b := rfl
theorem Sz_jput (M : hx_S) (a : Nat) (x : Option (Nat × (Nat → Int64))) : Sz (jput M a x) = Sz M := rfl
theorem Sl_jput (M : hx_S) (a : Nat) (x : Option (Nat × (Nat → Int64))) : Sl (jput M a x) = Sl M := rfl
theorem Sk_jput (M : hx_S) (a : Nat) (x : Option (Nat × (Nat → Int64))) (b : Nat) : Sk (jput M a x) b = Sk M b := rfl
theorem So_jput (M : hx_S) (a : Nat) (x : Option (Nat × (Nat → Int64))) (c b : Nat) : So (jput M a x) c b = So M c b := rfl
theorem Si_jput (M : hx_S) (a : Nat) (x : Option (Nat × (Nat → Int64))) (b : Nat) : Si (jput M a x) b = Si M b := rfl
theorem Sj_jput (M : hx_S) (a : Nat) (x : Option (Nat × (Nat → Int64))) (b : Nat) : Sj (jput M a x) b = if b = a then x else Sj M b := rfl
theorem Sr_jput (M : hx_S) (a : Nat) (x : Option (Nat × (Nat → Int64))) (c b : Nat) : Sr (jput M a x) c b = Sr M c b := rfl
theorem Sq_jput (M : hx_S) (a : Nat) (x : Option (Nat × (Nat → Int64))) (b : Nat) : Sq (jput M a x) b = Sq M b := rfl
theorem Sz_rput (M : hx_S) (k a : Nat) (x : Option (Nat × (Nat → Option Nat))) : Sz (rput M k a x) = Sz M := rfl
theorem Sl_rput (M : hx_S) (k a : Nat) (x : Option (Nat × (Nat → Option Nat))) : Sl (rput M k a x) = Sl M := rfl
theorem Sk_rput (M : hx_S) (k a : Nat) (x : Option (Nat × (Nat → Option Nat))) (b : Nat) : Sk (rput M k a x) b = Sk M b := rfl
theorem So_rput (M : hx_S) (k a : Nat) (x : Option (Nat × (Nat → Option Nat))) (c b : Nat) : So (rput M k a x) c b = So M c b := rfl
theorem Si_rput (M : hx_S) (k a : Nat) (x : Option (Nat × (Nat → Option Nat))) (b : Nat) : Si (rput M k a x) b = Si M b := rfl
theorem Sj_rput (M : hx_S) (k a : Nat) (x : Option (Nat × (Nat → Option Nat))) (b : Nat) : Sj (rput M k a x) b = Sj M b := rfl
theorem Sr_rput (M : hx_S) (k a : Nat) (x : Option (Nat × (Nat → Option Nat))) (c b : Nat) : Sr (rput M k a x) c b = if c = k ∧ b = a then x else Sr M c b := rfl
theorem Sq_rput (M : hx_S) (k a : Nat) (x : Option (Nat × (Nat → Option Nat))) (b : Nat) : Sq (rput M k a x) b = Sq M b := rfl
theorem Sz_qput (M : hx_S) (a : Nat) (x : Option (List Nat × Nat × Nat × Int32)) : Sz (qput M a x) = Sz M := rfl
theorem Sl_qput (M : hx_S) (a : Nat) (x : Option (List Nat × Nat × Nat × Int32)) : Sl (qput M a x) = Sl M := rfl
theorem Sk_qput (M : hx_S) (a : Nat) (x : Option (List Nat × Nat × Nat × Int32)) (b : Nat) : Sk (qput M a x) b = Sk M b := rfl
theorem So_qput (M : hx_S) (a : Nat) (x : Option (List Nat × Nat × Nat × Int32)) (c b : Nat) : So (qput M a x) c b = So M c b := rfl
theorem Si_qput (M : hx_S) (a : Nat) (x : Option (List Nat × Nat × Nat × Int32)) (b : Nat) : Si (qput M a x) b = Si M b := rfl
theorem Sj_qput (M : hx_S) (a : Nat) (x : Option (List Nat × Nat × Nat × Int32)) (b : Nat) : Sj (qput M a x) b = Sj M b := rfl
theorem Sr_qput (M : hx_S) (a : Nat) (x : Option (List Nat × Nat × Nat × Int32)) (c b : Nat) : Sr (qput M a x) c b = Sr M c b := rfl
theorem Sq_qput (M : hx_S) (a : Nat) (x : Option (List Nat × Nat × Nat × Int32)) (b : Nat) : Sq (qput M a x) b = if b = a then x else Sq M b := rfl
theorem Sz_kput (M : hx_S) (a k : Nat) : Sz (kput M a k) = Sz M := rfl
theorem Sl_kput (M : hx_S) (a k : Nat) : Sl (kput M a k) = Sl M := rfl
theorem Sk_kput (M : hx_S) (a k : Nat) (b : Nat) : Sk (kput M a k) b = if b = a then k else Sk M b := rfl
theorem So_kput (M : hx_S) (a k : Nat) (c b : Nat) : So (kput M a k) c b = So M c b := rfl
theorem Si_kput (M : hx_S) (a k : Nat) (b : Nat) : Si (kput M a k) b = Si M b := rfl
theorem Sj_kput (M : hx_S) (a k : Nat) (b : Nat) : Sj (kput M a k) b = Sj M b := rfl
theorem Sr_kput (M : hx_S) (a k : Nat) (c b : Nat) : Sr (kput M a k) c b = Sr M c b := rfl
theorem Sq_kput (M : hx_S) (a k : Nat) (b : Nat) : Sq (kput M a k) b = Sq M b := rfl
theorem Sz_grow (M : hx_S) (n k : Nat) : Sz (grow M n k) = (Sz M + 1) := rfl
theorem Sl_grow (M : hx_S) (n k : Nat) : Sl (grow M n k) = (Sl M + n) := rfl
theorem Sk_grow (M : hx_S) (n k : Nat) (b : Nat) : Sk (grow M n k) b = if b = Sz M then k else Sk M b := rfl
theorem So_grow (M : hx_S) (n k : Nat) (c b : Nat) : So (grow M n k) c b = So M c b := rfl
theorem Si_grow (M : hx_S) (n k : Nat) (b : Nat) : Si (grow M n k) b = Si M b := rfl
theorem Sj_grow (M : hx_S) (n k : Nat) (b : Nat) : Sj (grow M n k) b = Sj M b := rfl
theorem Sr_grow (M : hx_S) (n k : Nat) (c b : Nat) : Sr (grow M n k) c b = Sr M c b := rfl
theorem Sq_grow (M : hx_S) (n k : Nat) (b : Nat) : Sq (grow M n k) b = Sq M b := rfl
/-- a heap that has only grown -/
def hle (M M1 : hx_S) : Prop := Sz M ≤ Sz M1 ∧ Sl M ≤ Sl M1
theorem hle.rf (M : hx_S) : hle M M := ⟨Nat.le_refl _, Nat.le_refl _⟩
theorem hle.tr {M M1 M2 : hx_S} (h : hle M M1) (k : hle M1 M2) : hle M M2 := ⟨Nat.le_trans h.1 k.1, Nat.le_trans h.2 k.2⟩
