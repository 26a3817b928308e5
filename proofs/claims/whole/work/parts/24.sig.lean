/-! TUPLES: the state of the machine of tokens; the ghosts of frames and cells -/
abbrev V2 : Type := Int32 × Int64
abbrev hs_S : Type := (List (Nat × Int32 × List (Nat × Nat × Nat))) × (Nat) × (List T3) × (Nat) × (Nat → Nat) × (Nat → Option V2) × (Nat → Nat → Nat → Option V2) × (Nat) × (List (Nat × Nat × (Nat → Option V2))) × (List (Nat × Nat × Nat)) × (List (V2 × Nat)) × (Nat) × (Nat) × (Nat)
def sN (σ : hs_S) : List (Nat × Int32 × List (Nat × Nat × Nat)) := σ.1
def sB (σ : hs_S) : Nat := σ.2.1
def sC (σ : hs_S) : List T3 := σ.2.2.1
def sA (σ : hs_S) : Nat := σ.2.2.2.1
def sLe (σ : hs_S) : Nat → Nat := σ.2.2.2.2.1
def sCe (σ : hs_S) : Nat → Option V2 := σ.2.2.2.2.2.1
def sT (σ : hs_S) : Nat → Nat → Nat → Option V2 := σ.2.2.2.2.2.2.1
def sNt (σ : hs_S) : Nat := σ.2.2.2.2.2.2.2.1
def sR (σ : hs_S) : List (Nat × Nat × (Nat → Option V2)) := σ.2.2.2.2.2.2.2.2.1
def sK (σ : hs_S) : List (Nat × Nat × Nat) := σ.2.2.2.2.2.2.2.2.2.1
def sRs (σ : hs_S) : List (V2 × Nat) := σ.2.2.2.2.2.2.2.2.2.2.1
def sTr (σ : hs_S) : Nat := σ.2.2.2.2.2.2.2.2.2.2.2.1
def sW (σ : hs_S) : Nat := σ.2.2.2.2.2.2.2.2.2.2.2.2.1
def sAl (σ : hs_S) : Nat := σ.2.2.2.2.2.2.2.2.2.2.2.2.2
def uN (σ : hs_S) (x : List (Nat × Int32 × List (Nat × Nat × Nat))) : hs_S := (x, sB σ, sC σ, sA σ, sLe σ, sCe σ, sT σ, sNt σ, sR σ, sK σ, sRs σ, sTr σ, sW σ, sAl σ)
def uB (σ : hs_S) (x : Nat) : hs_S := (sN σ, x, sC σ, sA σ, sLe σ, sCe σ, sT σ, sNt σ, sR σ, sK σ, sRs σ, sTr σ, sW σ, sAl σ)
def uC (σ : hs_S) (x : List T3) : hs_S := (sN σ, sB σ, x, sA σ, sLe σ, sCe σ, sT σ, sNt σ, sR σ, sK σ, sRs σ, sTr σ, sW σ, sAl σ)
def uA (σ : hs_S) (x : Nat) : hs_S := (sN σ, sB σ, sC σ, x, sLe σ, sCe σ, sT σ, sNt σ, sR σ, sK σ, sRs σ, sTr σ, sW σ, sAl σ)
def uLe (σ : hs_S) (x : Nat → Nat) : hs_S := (sN σ, sB σ, sC σ, sA σ, x, sCe σ, sT σ, sNt σ, sR σ, sK σ, sRs σ, sTr σ, sW σ, sAl σ)
def uCe (σ : hs_S) (x : Nat → Option V2) : hs_S := (sN σ, sB σ, sC σ, sA σ, sLe σ, x, sT σ, sNt σ, sR σ, sK σ, sRs σ, sTr σ, sW σ, sAl σ)
def uT (σ : hs_S) (x : Nat → Nat → Nat → Option V2) : hs_S := (sN σ, sB σ, sC σ, sA σ, sLe σ, sCe σ, x, sNt σ, sR σ, sK σ, sRs σ, sTr σ, sW σ, sAl σ)
def uNt (σ : hs_S) (x : Nat) : hs_S := (sN σ, sB σ, sC σ, sA σ, sLe σ, sCe σ, sT σ, x, sR σ, sK σ, sRs σ, sTr σ, sW σ, sAl σ)
def uR (σ : hs_S) (x : List (Nat × Nat × (Nat → Option V2))) : hs_S := (sN σ, sB σ, sC σ, sA σ, sLe σ, sCe σ, sT σ, sNt σ, x, sK σ, sRs σ, sTr σ, sW σ, sAl σ)
def uK (σ : hs_S) (x : List (Nat × Nat × Nat)) : hs_S := (sN σ, sB σ, sC σ, sA σ, sLe σ, sCe σ, sT σ, sNt σ, sR σ, x, sRs σ, sTr σ, sW σ, sAl σ)
def uRs (σ : hs_S) (x : List (V2 × Nat)) : hs_S := (sN σ, sB σ, sC σ, sA σ, sLe σ, sCe σ, sT σ, sNt σ, sR σ, sK σ, x, sTr σ, sW σ, sAl σ)
def uTr (σ : hs_S) (x : Nat) : hs_S := (sN σ, sB σ, sC σ, sA σ, sLe σ, sCe σ, sT σ, sNt σ, sR σ, sK σ, sRs σ, x, sW σ, sAl σ)
def uW (σ : hs_S) (x : Nat) : hs_S := (sN σ, sB σ, sC σ, sA σ, sLe σ, sCe σ, sT σ, sNt σ, sR σ, sK σ, sRs σ, sTr σ, x, sAl σ)
def uAl (σ : hs_S) (x : Nat) : hs_S := (sN σ, sB σ, sC σ, sA σ, sLe σ, sCe σ, sT σ, sNt σ, sR σ, sK σ, sRs σ, sTr σ, sW σ, x)
theorem sN_uN (σ : hs_S) (x : List (Nat × Int32 × List (Nat × Nat × Nat))) : sN (uN σ x) = x := rfl
theorem sB_uN (σ : hs_S) (x : List (Nat × Int32 × List (Nat × Nat × Nat))) : sB (uN σ x) = sB σ := rfl
theorem sC_uN (σ : hs_S) (x : List (Nat × Int32 × List (Nat × Nat × Nat))) : sC (uN σ x) = sC σ := rfl
theorem sA_uN (σ : hs_S) (x : List (Nat × Int32 × List (Nat × Nat × Nat))) : sA (uN σ x) = sA σ := rfl
theorem sLe_uN (σ : hs_S) (x : List (Nat × Int32 × List (Nat × Nat × Nat))) : sLe (uN σ x) = sLe σ := rfl
theorem sCe_uN (σ : hs_S) (x : List (Nat × Int32 × List (Nat × Nat × Nat))) : sCe (uN σ x) = sCe σ := rfl
theorem sT_uN (σ : hs_S) (x : List (Nat × Int32 × List (Nat × Nat × Nat))) : sT (uN σ x) = sT σ := rfl
theorem sNt_uN (σ : hs_S) (x : List (Nat × Int32 × List (Nat × Nat × Nat))) : sNt (uN σ x) = sNt σ := rfl
theorem sR_uN (σ : hs_S) (x : List (Nat × Int32 × List (Nat × Nat × Nat))) : sR (uN σ x) = sR σ := rfl
theorem sK_uN (σ : hs_S) (x : List (Nat × Int32 × List (Nat × Nat × Nat))) : sK (uN σ x) = sK σ := rfl
theorem sRs_uN (σ : hs_S) (x : List (Nat × Int32 × List (Nat × Nat × Nat))) : sRs (uN σ x) = sRs σ := rfl
theorem sTr_uN (σ : hs_S) (x : List (Nat × Int32 × List (Nat × Nat × Nat))) : sTr (uN σ x) = sTr σ := rfl
theorem sW_uN (σ : hs_S) (x : List (Nat × Int32 × List (Nat × Nat × Nat))) : sW (uN σ x) = sW σ := rfl
theorem sAl_uN (σ : hs_S) (x : List (Nat × Int32 × List (Nat × Nat × Nat))) : sAl (uN σ x) = sAl σ := rfl
theorem sN_uB (σ : hs_S) (x : Nat) : sN (uB σ x) = sN σ := rfl
theorem sB_uB (σ : hs_S) (x : Nat) : sB (uB σ x) = x := rfl
theorem sC_uB (σ : hs_S) (x : Nat) : sC (uB σ x) = sC σ := rfl
theorem sA_uB (σ : hs_S) (x : Nat) : sA (uB σ x) = sA σ := rfl
theorem sLe_uB (σ : hs_S) (x : Nat) : sLe (uB σ x) = sLe σ := rfl
theorem sCe_uB (σ : hs_S) (x : Nat) : sCe (uB σ x) = sCe σ := rfl
theorem sT_uB (σ : hs_S) (x : Nat) : sT (uB σ x) = sT σ := rfl
theorem sNt_uB (σ : hs_S) (x : Nat) : sNt (uB σ x) = sNt σ := rfl
theorem sR_uB (σ : hs_S) (x : Nat) : sR (uB σ x) = sR σ := rfl
theorem sK_uB (σ : hs_S) (x : Nat) : sK (uB σ x) = sK σ := rfl
theorem sRs_uB (σ : hs_S) (x : Nat) : sRs (uB σ x) = sRs σ := rfl
theorem sTr_uB (σ : hs_S) (x : Nat) : sTr (uB σ x) = sTr σ := rfl
theorem sW_uB (σ : hs_S) (x : Nat) : sW (uB σ x) = sW σ := rfl
theorem sAl_uB (σ : hs_S) (x : Nat) : sAl (uB σ x) = sAl σ := rfl
theorem sN_uC (σ : hs_S) (x : List T3) : sN (uC σ x) = sN σ := rfl
theorem sB_uC (σ : hs_S) (x : List T3) : sB (uC σ x) = sB σ := rfl
theorem sC_uC (σ : hs_S) (x : List T3) : sC (uC σ x) = x := rfl
theorem sA_uC (σ : hs_S) (x : List T3) : sA (uC σ x) = sA σ := rfl
theorem sLe_uC (σ : hs_S) (x : List T3) : sLe (uC σ x) = sLe σ := rfl
theorem sCe_uC (σ : hs_S) (x : List T3) : sCe (uC σ x) = sCe σ := rfl
theorem sT_uC (σ : hs_S) (x : List T3) : sT (uC σ x) = sT σ := rfl
theorem sNt_uC (σ : hs_S) (x : List T3) : sNt (uC σ x) = sNt σ := rfl
theorem sR_uC (σ : hs_S) (x : List T3) : sR (uC σ x) = sR σ := rfl
theorem sK_uC (σ : hs_S) (x : List T3) : sK (uC σ x) = sK σ := rfl
theorem sRs_uC (σ : hs_S) (x : List T3) : sRs (uC σ x) = sRs σ := rfl
theorem sTr_uC (σ : hs_S) (x : List T3) : sTr (uC σ x) = sTr σ := rfl
theorem sW_uC (σ : hs_S) (x : List T3) : sW (uC σ x) = sW σ := rfl
theorem sAl_uC (σ : hs_S) (x : List T3) : sAl (uC σ x) = sAl σ := rfl
theorem sN_uA (σ : hs_S) (x : Nat) : sN (uA σ x) = sN σ := rfl
theorem sB_uA (σ : hs_S) (x : Nat) : sB (uA σ x) = sB σ := rfl
theorem sC_uA (σ : hs_S) (x : Nat) : sC (uA σ x) = sC σ := rfl
theorem sA_uA (σ : hs_S) (x : Nat) : sA (uA σ x) = x := rfl
theorem sLe_uA (σ : hs_S) (x : Nat) : sLe (uA σ x) = sLe σ := rfl
theorem sCe_uA (σ : hs_S) (x : Nat) : sCe (uA σ x) = sCe σ := rfl
theorem sT_uA (σ : hs_S) (x : Nat) : sT (uA σ x) = sT σ := rfl
theorem sNt_uA (σ : hs_S) (x : Nat) : sNt (uA σ x) = sNt σ := rfl
theorem sR_uA (σ : hs_S) (x : Nat) : sR (uA σ x) = sR σ := rfl
theorem sK_uA (σ : hs_S) (x : Nat) : sK (uA σ x) = sK σ := rfl
theorem sRs_uA (σ : hs_S) (x : Nat) : sRs (uA σ x) = sRs σ := rfl
theorem sTr_uA (σ : hs_S) (x : Nat) : sTr (uA σ x) = sTr σ := rfl
theorem sW_uA (σ : hs_S) (x : Nat) : sW (uA σ x) = sW σ := rfl
theorem sAl_uA (σ : hs_S) (x : Nat) : sAl (uA σ x) = sAl σ := rfl
theorem sN_uLe (σ : hs_S) (x : Nat → Nat) : sN (uLe σ x) = sN σ := rfl
theorem sB_uLe (σ : hs_S) (x : Nat → Nat) : sB (uLe σ x) = sB σ := rfl
theorem sC_uLe (σ : hs_S) (x : Nat → Nat) : sC (uLe σ x) = sC σ := rfl
theorem sA_uLe (σ : hs_S) (x : Nat → Nat) : sA (uLe σ x) = sA σ := rfl
theorem sLe_uLe (σ : hs_S) (x : Nat → Nat) : sLe (uLe σ x) = x := rfl
theorem sCe_uLe (σ : hs_S) (x : Nat → Nat) : sCe (uLe σ x) = sCe σ := rfl
theorem sT_uLe (σ : hs_S) (x : Nat → Nat) : sT (uLe σ x) = sT σ := rfl
theorem sNt_uLe (σ : hs_S) (x : Nat → Nat) : sNt (uLe σ x) = sNt σ := rfl
theorem sR_uLe (σ : hs_S) (x : Nat → Nat) : sR (uLe σ x) = sR σ := rfl
theorem sK_uLe (σ : hs_S) (x : Nat → Nat) : sK (uLe σ x) = sK σ := rfl
theorem sRs_uLe (σ : hs_S) (x : Nat → Nat) : sRs (uLe σ x) = sRs σ := rfl
theorem sTr_uLe (σ : hs_S) (x : Nat → Nat) : sTr (uLe σ x) = sTr σ := rfl
theorem sW_uLe (σ : hs_S) (x : Nat → Nat) : sW (uLe σ x) = sW σ := rfl
theorem sAl_uLe (σ : hs_S) (x : Nat → Nat) : sAl (uLe σ x) = sAl σ := rfl
theorem sN_uCe (σ : hs_S) (x : Nat → Option V2) : sN (uCe σ x) = sN σ := rfl
theorem sB_uCe (σ : hs_S) (x : Nat → Option V2) : sB (uCe σ x) = sB σ := rfl
theorem sC_uCe (σ : hs_S) (x : Nat → Option V2) : sC (uCe σ x) = sC σ := rfl
theorem sA_uCe (σ : hs_S) (x : Nat → Option V2) : sA (uCe σ x) = sA σ := rfl
theorem sLe_uCe (σ : hs_S) (x : Nat → Option V2) : sLe (uCe σ x) = sLe σ := rfl
theorem sCe_uCe (σ : hs_S) (x : Nat → Option V2) : sCe (uCe σ x) = x := rfl
theorem sT_uCe (σ : hs_S) (x : Nat → Option V2) : sT (uCe σ x) = sT σ := rfl
theorem sNt_uCe (σ : hs_S) (x : Nat → Option V2) : sNt (uCe σ x) = sNt σ := rfl
theorem sR_uCe (σ : hs_S) (x : Nat → Option V2) : sR (uCe σ x) = sR σ := rfl
theorem sK_uCe (σ : hs_S) (x : Nat → Option V2) : sK (uCe σ x) = sK σ := rfl
theorem sRs_uCe (σ : hs_S) (x : Nat → Option V2) : sRs (uCe σ x) = sRs σ := rfl
theorem sTr_uCe (σ : hs_S) (x : Nat → Option V2) : sTr (uCe σ x) = sTr σ := rfl
theorem sW_uCe (σ : hs_S) (x : Nat → Option V2) : sW (uCe σ x) = sW σ := rfl
theorem sAl_uCe (σ : hs_S) (x : Nat → Option V2) : sAl (uCe σ x) = sAl σ := rfl
theorem sN_uT (σ : hs_S) (x : Nat → Nat → Nat → Option V2) : sN (uT σ x) = sN σ := rfl
theorem sB_uT (σ : hs_S) (x : Nat → Nat → Nat → Option V2) : sB (uT σ x) = sB σ := rfl
theorem sC_uT (σ : hs_S) (x : Nat → Nat → Nat → Option V2) : sC (uT σ x) = sC σ := rfl
theorem sA_uT (σ : hs_S) (x : Nat → Nat → Nat → Option V2) : sA (uT σ x) = sA σ := rfl
theorem sLe_uT (σ : hs_S) (x : Nat → Nat → Nat → Option V2) : sLe (uT σ x) = sLe σ := rfl
theorem sCe_uT (σ : hs_S) (x : Nat → Nat → Nat → Option V2) : sCe (uT σ x) = sCe σ := rfl
theorem sT_uT (σ : hs_S) (x : Nat → Nat → Nat → Option V2) : sT (uT σ x) = x := rfl
theorem sNt_uT (σ : hs_S) (x : Nat → Nat → Nat → Option V2) : sNt (uT σ x) = sNt σ := rfl
theorem sR_uT (σ : hs_S) (x : Nat → Nat → Nat → Option V2) : sR (uT σ x) = sR σ := rfl
theorem sK_uT (σ : hs_S) (x : Nat → Nat → Nat → Option V2) : sK (uT σ x) = sK σ := rfl
theorem sRs_uT (σ : hs_S) (x : Nat → Nat → Nat → Option V2) : sRs (uT σ x) = sRs σ := rfl
theorem sTr_uT (σ : hs_S) (x : Nat → Nat → Nat → Option V2) : sTr (uT σ x) = sTr σ := rfl
theorem sW_uT (σ : hs_S) (x : Nat → Nat → Nat → Option V2) : sW (uT σ x) = sW σ := rfl
theorem sAl_uT (σ : hs_S) (x : Nat → Nat → Nat → Option V2) : sAl (uT σ x) = sAl σ := rfl
theorem sN_uNt (σ : hs_S) (x : Nat) : sN (uNt σ x) = sN σ := rfl
theorem sB_uNt (σ : hs_S) (x : Nat) : sB (uNt σ x) = sB σ := rfl
theorem sC_uNt (σ : hs_S) (x : Nat) : sC (uNt σ x) = sC σ := rfl
theorem sA_uNt (σ : hs_S) (x : Nat) : sA (uNt σ x) = sA σ := rfl
theorem sLe_uNt (σ : hs_S) (x : Nat) : sLe (uNt σ x) = sLe σ := rfl
theorem sCe_uNt (σ : hs_S) (x : Nat) : sCe (uNt σ x) = sCe σ := rfl
theorem sT_uNt (σ : hs_S) (x : Nat) : sT (uNt σ x) = sT σ := rfl
theorem sNt_uNt (σ : hs_S) (x : Nat) : sNt (uNt σ x) = x := rfl
theorem sR_uNt (σ : hs_S) (x : Nat) : sR (uNt σ x) = sR σ := rfl
theorem sK_uNt (σ : hs_S) (x : Nat) : sK (uNt σ x) = sK σ := rfl
theorem sRs_uNt (σ : hs_S) (x : Nat) : sRs (uNt σ x) = sRs σ := rfl
theorem sTr_uNt (σ : hs_S) (x : Nat) : sTr (uNt σ x) = sTr σ := rfl
theorem sW_uNt (σ : hs_S) (x : Nat) : sW (uNt σ x) = sW σ := rfl
theorem sAl_uNt (σ : hs_S) (x : Nat) : sAl (uNt σ x) = sAl σ := rfl
theorem sN_uR (σ : hs_S) (x : List (Nat × Nat × (Nat → Option V2))) : sN (uR σ x) = sN σ := rfl
theorem sB_uR (σ : hs_S) (x : List (Nat × Nat × (Nat → Option V2))) : sB (uR σ x) = sB σ := rfl
theorem sC_uR (σ : hs_S) (x : List (Nat × Nat × (Nat → Option V2))) : sC (uR σ x) = sC σ := rfl
theorem sA_uR (σ : hs_S) (x : List (Nat × Nat × (Nat → Option V2))) : sA (uR σ x) = sA σ := rfl
theorem sLe_uR (σ : hs_S) (x : List (Nat × Nat × (Nat → Option V2))) : sLe (uR σ x) = sLe σ := rfl
theorem sCe_uR (σ : hs_S) (x : List (Nat × Nat × (Nat → Option V2))) : sCe (uR σ x) = sCe σ := rfl
theorem sT_uR (σ : hs_S) (x : List (Nat × Nat × (Nat → Option V2))) : sT (uR σ x) = sT σ := rfl
theorem sNt_uR (σ : hs_S) (x : List (Nat × Nat × (Nat → Option V2))) : sNt (uR σ x) = sNt σ := rfl
theorem sR_uR (σ : hs_S) (x : List (Nat × Nat × (Nat → Option V2))) : sR (uR σ x) = x := rfl
theorem sK_uR (σ : hs_S) (x : List (Nat × Nat × (Nat → Option V2))) : sK (uR σ x) = sK σ := rfl
theorem sRs_uR (σ : hs_S) (x : List (Nat × Nat × (Nat → Option V2))) : sRs (uR σ x) = sRs σ := rfl
theorem sTr_uR (σ : hs_S) (x : List (Nat × Nat × (Nat → Option V2))) : sTr (uR σ x) = sTr σ := rfl
theorem sW_uR (σ : hs_S) (x : List (Nat × Nat × (Nat → Option V2))) : sW (uR σ x) = sW σ := rfl
theorem sAl_uR (σ : hs_S) (x : List (Nat × Nat × (Nat → Option V2))) : sAl (uR σ x) = sAl σ := rfl
theorem sN_uK (σ : hs_S) (x : List (Nat × Nat × Nat)) : sN (uK σ x) = sN σ := rfl
theorem sB_uK (σ : hs_S) (x : List (Nat × Nat × Nat)) : sB (uK σ x) = sB σ := rfl
theorem sC_uK (σ : hs_S) (x : List (Nat × Nat × Nat)) : sC (uK σ x) = sC σ := rfl
theorem sA_uK (σ : hs_S) (x : List (Nat × Nat × Nat)) : sA (uK σ x) = sA σ := rfl
theorem sLe_uK (σ : hs_S) (x : List (Nat × Nat × Nat)) : sLe (uK σ x) = sLe σ := rfl
theorem sCe_uK (σ : hs_S) (x : List (Nat × Nat × Nat)) : sCe (uK σ x) = sCe σ := rfl
theorem sT_uK (σ : hs_S) (x : List (Nat × Nat × Nat)) : sT (uK σ x) = sT σ := rfl
theorem sNt_uK (σ : hs_S) (x : List (Nat × Nat × Nat)) : sNt (uK σ x) = sNt σ := rfl
theorem sR_uK (σ : hs_S) (x : List (Nat × Nat × Nat)) : sR (uK σ x) = sR σ := rfl
theorem sK_uK (σ : hs_S) (x : List (Nat × Nat × Nat)) : sK (uK σ x) = x := rfl
theorem sRs_uK (σ : hs_S) (x : List (Nat × Nat × Nat)) : sRs (uK σ x) = sRs σ := rfl
theorem sTr_uK (σ : hs_S) (x : List (Nat × Nat × Nat)) : sTr (uK σ x) = sTr σ := rfl
theorem sW_uK (σ : hs_S) (x : List (Nat × Nat × Nat)) : sW (uK σ x) = sW σ := rfl
theorem sAl_uK (σ : hs_S) (x : List (Nat × Nat × Nat)) : sAl (uK σ x) = sAl σ := rfl
theorem sN_uRs (σ : hs_S) (x : List (V2 × Nat)) : sN (uRs σ x) = sN σ := rfl
theorem sB_uRs (σ : hs_S) (x : List (V2 × Nat)) : sB (uRs σ x) = sB σ := rfl
theorem sC_uRs (σ : hs_S) (x : List (V2 × Nat)) : sC (uRs σ x) = sC σ := rfl
theorem sA_uRs (σ : hs_S) (x : List (V2 × Nat)) : sA (uRs σ x) = sA σ := rfl
theorem sLe_uRs (σ : hs_S) (x : List (V2 × Nat)) : sLe (uRs σ x) = sLe σ := rfl
theorem sCe_uRs (σ : hs_S) (x : List (V2 × Nat)) : sCe (uRs σ x) = sCe σ := rfl
theorem sT_uRs (σ : hs_S) (x : List (V2 × Nat)) : sT (uRs σ x) = sT σ := rfl
theorem sNt_uRs (σ : hs_S) (x : List (V2 × Nat)) : sNt (uRs σ x) = sNt σ := rfl
theorem sR_uRs (σ : hs_S) (x : List (V2 × Nat)) : sR (uRs σ x) = sR σ := rfl
theorem sK_uRs (σ : hs_S) (x : List (V2 × Nat)) : sK (uRs σ x) = sK σ := rfl
theorem sRs_uRs (σ : hs_S) (x : List (V2 × Nat)) : sRs (uRs σ x) = x := rfl
theorem sTr_uRs (σ : hs_S) (x : List (V2 × Nat)) : sTr (uRs σ x) = sTr σ := rfl
theorem sW_uRs (σ : hs_S) (x : List (V2 × Nat)) : sW (uRs σ x) = sW σ := rfl
theorem sAl_uRs (σ : hs_S) (x : List (V2 × Nat)) : sAl (uRs σ x) = sAl σ := rfl
theorem sN_uTr (σ : hs_S) (x : Nat) : sN (uTr σ x) = sN σ := rfl
theorem sB_uTr (σ : hs_S) (x : Nat) : sB (uTr σ x) = sB σ := rfl
theorem sC_uTr (σ : hs_S) (x : Nat) : sC (uTr σ x) = sC σ := rfl
theorem sA_uTr (σ : hs_S) (x : Nat) : sA (uTr σ x) = sA σ := rfl
theorem sLe_uTr (σ : hs_S) (x : Nat) : sLe (uTr σ x) = sLe σ := rfl
theorem sCe_uTr (σ : hs_S) (x : Nat) : sCe (uTr σ x) = sCe σ := rfl
theorem sT_uTr (σ : hs_S) (x : Nat) : sT (uTr σ x) = sT σ := rfl
theorem sNt_uTr (σ : hs_S) (x : Nat) : sNt (uTr σ x) = sNt σ := rfl
theorem sR_uTr (σ : hs_S) (x : Nat) : sR (uTr σ x) = sR σ := rfl
theorem sK_uTr (σ : hs_S) (x : Nat) : sK (uTr σ x) = sK σ := rfl
theorem sRs_uTr (σ : hs_S) (x : Nat) : sRs (uTr σ x) = sRs σ := rfl
theorem sTr_uTr (σ : hs_S) (x : Nat) : sTr (uTr σ x) = x := rfl
theorem sW_uTr (σ : hs_S) (x : Nat) : sW (uTr σ x) = sW σ := rfl
theorem sAl_uTr (σ : hs_S) (x : Nat) : sAl (uTr σ x) = sAl σ := rfl
theorem sN_uW (σ : hs_S) (x : Nat) : sN (uW σ x) = sN σ := rfl
theorem sB_uW (σ : hs_S) (x : Nat) : sB (uW σ x) = sB σ := rfl
theorem sC_uW (σ : hs_S) (x : Nat) : sC (uW σ x) = sC σ := rfl
theorem sA_uW (σ : hs_S) (x : Nat) : sA (uW σ x) = sA σ := rfl
theorem sLe_uW (σ : hs_S) (x : Nat) : sLe (uW σ x) = sLe σ := rfl
theorem sCe_uW (σ : hs_S) (x : Nat) : sCe (uW σ x) = sCe σ := rfl
theorem sT_uW (σ : hs_S) (x : Nat) : sT (uW σ x) = sT σ := rfl
theorem sNt_uW (σ : hs_S) (x : Nat) : sNt (uW σ x) = sNt σ := rfl
theorem sR_uW (σ : hs_S) (x : Nat) : sR (uW σ x) = sR σ := rfl
theorem sK_uW (σ : hs_S) (x : Nat) : sK (uW σ x) = sK σ := rfl
theorem sRs_uW (σ : hs_S) (x : Nat) : sRs (uW σ x) = sRs σ := rfl
theorem sTr_uW (σ : hs_S) (x : Nat) : sTr (uW σ x) = sTr σ := rfl
theorem sW_uW (σ : hs_S) (x : Nat) : sW (uW σ x) = x := rfl
theorem sAl_uW (σ : hs_S) (x : Nat) : sAl (uW σ x) = sAl σ := rfl
theorem sN_uAl (σ : hs_S) (x : Nat) : sN (uAl σ x) = sN σ := rfl
theorem sB_uAl (σ : hs_S) (x : Nat) : sB (uAl σ x) = sB σ := rfl
theorem sC_uAl (σ : hs_S) (x : Nat) : sC (uAl σ x) = sC σ := rfl
theorem sA_uAl (σ : hs_S) (x : Nat) : sA (uAl σ x) = sA σ := rfl
theorem sLe_uAl (σ : hs_S) (x : Nat) : sLe (uAl σ x) = sLe σ := rfl
theorem sCe_uAl (σ : hs_S) (x : Nat) : sCe (uAl σ x) = sCe σ := rfl
theorem sT_uAl (σ : hs_S) (x : Nat) : sT (uAl σ x) = sT σ := rfl
theorem sNt_uAl (σ : hs_S) (x : Nat) : sNt (uAl σ x) = sNt σ := rfl
theorem sR_uAl (σ : hs_S) (x : Nat) : sR (uAl σ x) = sR σ := rfl
theorem sK_uAl (σ : hs_S) (x : Nat) : sK (uAl σ x) = sK σ := rfl
theorem sRs_uAl (σ : hs_S) (x : Nat) : sRs (uAl σ x) = sRs σ := rfl
theorem sTr_uAl (σ : hs_S) (x : Nat) : sTr (uAl σ x) = sTr σ := rfl
theorem sW_uAl (σ : hs_S) (x : Nat) : sW (uAl σ x) = sW σ := rfl
theorem sAl_uAl (σ : hs_S) (x : Nat) : sAl (uAl σ x) = x := rfl
abbrev hf_S : Type := (Nat → Nat) × (Nat → Option Nat) × (Nat → Nat × Nat) × (Nat → Nat × Nat) × (List Nat) × (Nat × Nat → List Nat) × (Nat → Nat) × (Nat → Int32) × (Nat → Nat → Option V2)
def gkl (γ : hf_S) : Nat → Nat := γ.1
def gcd (γ : hf_S) : Nat → Option Nat := γ.2.1
def gro (γ : hf_S) : Nat → Nat × Nat := γ.2.2.1
def gpl (γ : hf_S) : Nat → Nat × Nat := γ.2.2.2.1
def gMD (γ : hf_S) : List Nat := γ.2.2.2.2.1
def gG (γ : hf_S) : Nat × Nat → List Nat := γ.2.2.2.2.2.1
def gna (γ : hf_S) : Nat → Nat := γ.2.2.2.2.2.2.1
def gfc (γ : hf_S) : Nat → Int32 := γ.2.2.2.2.2.2.2.1
def gft (γ : hf_S) : Nat → Nat → Option V2 := γ.2.2.2.2.2.2.2.2
def wkl (γ : hf_S) (x : Nat → Nat) : hf_S := (x, gcd γ, gro γ, gpl γ, gMD γ, gG γ, gna γ, gfc γ, gft γ)
def wcd (γ : hf_S) (x : Nat → Option Nat) : hf_S := (gkl γ, x, gro γ, gpl γ, gMD γ, gG γ, gna γ, gfc γ, gft γ)
def wro (γ : hf_S) (x : Nat → Nat × Nat) : hf_S := (gkl γ, gcd γ, x, gpl γ, gMD γ, gG γ, gna γ, gfc γ, gft γ)
def wpl (γ : hf_S) (x : Nat → Nat × Nat) : hf_S := (gkl γ, gcd γ, gro γ, x, gMD γ, gG γ, gna γ, gfc γ, gft γ)
def wMD (γ : hf_S) (x : List Nat) : hf_S := (gkl γ, gcd γ, gro γ, gpl γ, x, gG γ, gna γ, gfc γ, gft γ)
def wG (γ : hf_S) (x : Nat × Nat → List Nat) : hf_S := (gkl γ, gcd γ, gro γ, gpl γ, gMD γ, x, gna γ, gfc γ, gft γ)
def wna (γ : hf_S) (x : Nat → Nat) : hf_S := (gkl γ, gcd γ, gro γ, gpl γ, gMD γ, gG γ, x, gfc γ, gft γ)
def wfc (γ : hf_S) (x : Nat → Int32) : hf_S := (gkl γ, gcd γ, gro γ, gpl γ, gMD γ, gG γ, gna γ, x, gft γ)
def wft (γ : hf_S) (x : Nat → Nat → Option V2) : hf_S := (gkl γ, gcd γ, gro γ, gpl γ, gMD γ, gG γ, gna γ, gfc γ, x)
theorem gkl_wkl (γ : hf_S) (x : Nat → Nat) : gkl (wkl γ x) = x := rfl
theorem gcd_wkl (γ : hf_S) (x : Nat → Nat) : gcd (wkl γ x) = gcd γ := rfl
theorem gro_wkl (γ : hf_S) (x : Nat → Nat) : gro (wkl γ x) = gro γ := rfl
theorem gpl_wkl (γ : hf_S) (x : Nat → Nat) : gpl (wkl γ x) = gpl γ := rfl
theorem gMD_wkl (γ : hf_S) (x : Nat → Nat) : gMD (wkl γ x) = gMD γ := rfl
theorem gG_wkl (γ : hf_S) (x : Nat → Nat) : gG (wkl γ x) = gG γ := rfl
theorem gna_wkl (γ : hf_S) (x : Nat → Nat) : gna (wkl γ x) = gna γ := rfl
theorem gfc_wkl (γ : hf_S) (x : Nat → Nat) : gfc (wkl γ x) = gfc γ := rfl
theorem gft_wkl (γ : hf_S) (x : Nat → Nat) : gft (wkl γ x) = gft γ := rfl
theorem gkl_wcd (γ : hf_S) (x : Nat → Option Nat) : gkl (wcd γ x) = gkl γ := rfl
theorem gcd_wcd (γ : hf_S) (x : Nat → Option Nat) : gcd (wcd γ x) = x := rfl
theorem gro_wcd (γ : hf_S) (x : Nat → Option Nat) : gro (wcd γ x) = gro γ := rfl
theorem gpl_wcd (γ : hf_S) (x : Nat → Option Nat) : gpl (wcd γ x) = gpl γ := rfl
theorem gMD_wcd (γ : hf_S) (x : Nat → Option Nat) : gMD (wcd γ x) = gMD γ := rfl
theorem gG_wcd (γ : hf_S) (x : Nat → Option Nat) : gG (wcd γ x) = gG γ := rfl
theorem gna_wcd (γ : hf_S) (x : Nat → Option Nat) : gna (wcd γ x) = gna γ := rfl
theorem gfc_wcd (γ : hf_S) (x : Nat → Option Nat) : gfc (wcd γ x) = gfc γ := rfl
theorem gft_wcd (γ : hf_S) (x : Nat → Option Nat) : gft (wcd γ x) = gft γ := rfl
theorem gkl_wro (γ : hf_S) (x : Nat → Nat × Nat) : gkl (wro γ x) = gkl γ := rfl
theorem gcd_wro (γ : hf_S) (x : Nat → Nat × Nat) : gcd (wro γ x) = gcd γ := rfl
theorem gro_wro (γ : hf_S) (x : Nat → Nat × Nat) : gro (wro γ x) = x := rfl
theorem gpl_wro (γ : hf_S) (x : Nat → Nat × Nat) : gpl (wro γ x) = gpl γ := rfl
theorem gMD_wro (γ : hf_S) (x : Nat → Nat × Nat) : gMD (wro γ x) = gMD γ := rfl
theorem gG_wro (γ : hf_S) (x : Nat → Nat × Nat) : gG (wro γ x) = gG γ := rfl
theorem gna_wro (γ : hf_S) (x : Nat → Nat × Nat) : gna (wro γ x) = gna γ := rfl
theorem gfc_wro (γ : hf_S) (x : Nat → Nat × Nat) : gfc (wro γ x) = gfc γ := rfl
theorem gft_wro (γ : hf_S) (x : Nat → Nat × Nat) : gft (wro γ x) = gft γ := rfl
theorem gkl_wpl (γ : hf_S) (x : Nat → Nat × Nat) : gkl (wpl γ x) = gkl γ := rfl
theorem gcd_wpl (γ : hf_S) (x : Nat → Nat × Nat) : gcd (wpl γ x) = gcd γ := rfl
theorem gro_wpl (γ : hf_S) (x : Nat → Nat × Nat) : gro (wpl γ x) = gro γ := rfl
theorem gpl_wpl (γ : hf_S) (x : Nat → Nat × Nat) : gpl (wpl γ x) = x := rfl
theorem gMD_wpl (γ : hf_S) (x : Nat → Nat × Nat) : gMD (wpl γ x) = gMD γ := rfl
theorem gG_wpl (γ : hf_S) (x : Nat → Nat × Nat) : gG (wpl γ x) = gG γ := rfl
theorem gna_wpl (γ : hf_S) (x : Nat → Nat × Nat) : gna (wpl γ x) = gna γ := rfl
theorem gfc_wpl (γ : hf_S) (x : Nat → Nat × Nat) : gfc (wpl γ x) = gfc γ := rfl
theorem gft_wpl (γ : hf_S) (x : Nat → Nat × Nat) : gft (wpl γ x) = gft γ := rfl
theorem gkl_wMD (γ : hf_S) (x : List Nat) : gkl (wMD γ x) = gkl γ := rfl
theorem gcd_wMD (γ : hf_S) (x : List Nat) : gcd (wMD γ x) = gcd γ := rfl
theorem gro_wMD (γ : hf_S) (x : List Nat) : gro (wMD γ x) = gro γ := rfl
theorem gpl_wMD (γ : hf_S) (x : List Nat) : gpl (wMD γ x) = gpl γ := rfl
theorem gMD_wMD (γ : hf_S) (x : List Nat) : gMD (wMD γ x) = x := rfl
theorem gG_wMD (γ : hf_S) (x : List Nat) : gG (wMD γ x) = gG γ := rfl
theorem gna_wMD (γ : hf_S) (x : List Nat) : gna (wMD γ x) = gna γ := rfl
theorem gfc_wMD (γ : hf_S) (x : List Nat) : gfc (wMD γ x) = gfc γ := rfl
theorem gft_wMD (γ : hf_S) (x : List Nat) : gft (wMD γ x) = gft γ := rfl
theorem gkl_wG (γ : hf_S) (x : Nat × Nat → List Nat) : gkl (wG γ x) = gkl γ := rfl
theorem gcd_wG (γ : hf_S) (x : Nat × Nat → List Nat) : gcd (wG γ x) = gcd γ := rfl
theorem gro_wG (γ : hf_S) (x : Nat × Nat → List Nat) : gro (wG γ x) = gro γ := rfl
theorem gpl_wG (γ : hf_S) (x : Nat × Nat → List Nat) : gpl (wG γ x) = gpl γ := rfl
theorem gMD_wG (γ : hf_S) (x : Nat × Nat → List Nat) : gMD (wG γ x) = gMD γ := rfl
theorem gG_wG (γ : hf_S) (x : Nat × Nat → List Nat) : gG (wG γ x) = x := rfl
theorem gna_wG (γ : hf_S) (x : Nat × Nat → List Nat) : gna (wG γ x) = gna γ := rfl
theorem gfc_wG (γ : hf_S) (x : Nat × Nat → List Nat) : gfc (wG γ x) = gfc γ := rfl
theorem gft_wG (γ : hf_S) (x : Nat × Nat → List Nat) : gft (wG γ x) = gft γ := rfl
theorem gkl_wna (γ : hf_S) (x : Nat → Nat) : gkl (wna γ x) = gkl γ := rfl
theorem gcd_wna (γ : hf_S) (x : Nat → Nat) : gcd (wna γ x) = gcd γ := rfl
theorem gro_wna (γ : hf_S) (x : Nat → Nat) : gro (wna γ x) = gro γ := rfl
theorem gpl_wna (γ : hf_S) (x : Nat → Nat) : gpl (wna γ x) = gpl γ := rfl
theorem gMD_wna (γ : hf_S) (x : Nat → Nat) : gMD (wna γ x) = gMD γ := rfl
theorem gG_wna (γ : hf_S) (x : Nat → Nat) : gG (wna γ x) = gG γ := rfl
theorem gna_wna (γ : hf_S) (x : Nat → Nat) : gna (wna γ x) = x := rfl
theorem gfc_wna (γ : hf_S) (x : Nat → Nat) : gfc (wna γ x) = gfc γ := rfl
theorem gft_wna (γ : hf_S) (x : Nat → Nat) : gft (wna γ x) = gft γ := rfl
theorem gkl_wfc (γ : hf_S) (x : Nat → Int32) : gkl (wfc γ x) = gkl γ := rfl
theorem gcd_wfc (γ : hf_S) (x : Nat → Int32) : gcd (wfc γ x) = gcd γ := rfl
theorem gro_wfc (γ : hf_S) (x : Nat → Int32) : gro (wfc γ x) = gro γ := rfl
theorem gpl_wfc (γ : hf_S) (x : Nat → Int32) : gpl (wfc γ x) = gpl γ := rfl
theorem gMD_wfc (γ : hf_S) (x : Nat → Int32) : gMD (wfc γ x) = gMD γ := rfl
theorem gG_wfc (γ : hf_S) (x : Nat → Int32) : gG (wfc γ x) = gG γ := rfl
theorem gna_wfc (γ : hf_S) (x : Nat → Int32) : gna (wfc γ x) = gna γ := rfl
theorem gfc_wfc (γ : hf_S) (x : Nat → Int32) : gfc (wfc γ x) = x := rfl
theorem gft_wfc (γ : hf_S) (x : Nat → Int32) : gft (wfc γ x) = gft γ := rfl
theorem gkl_wft (γ : hf_S) (x : Nat → Nat → Option V2) : gkl (wft γ x) = gkl γ := rfl
theorem gcd_wft (γ : hf_S) (x : Nat → Nat → Option V2) : gcd (wft γ x) = gcd γ := rfl
theorem gro_wft (γ : hf_S) (x : Nat → Nat → Option V2) : gro (wft γ x) = gro γ := rfl
theorem gpl_wft (γ : hf_S) (x : Nat → Nat → Option V2) : gpl (wft γ x) = gpl γ := rfl
theorem gMD_wft (γ : hf_S) (x : Nat → Nat → Option V2) : gMD (wft γ x) = gMD γ := rfl
theorem gG_wft (γ : hf_S) (x : Nat → Nat → Option V2) : gG (wft γ x) = gG γ := rfl
theorem gna_wft (γ : hf_S) (x : Nat → Nat → Option V2) : gna (wft γ x) = gna γ := rfl
theorem gfc_wft (γ : hf_S) (x : Nat → Nat → Option V2) : gfc (wft γ x) = gfc γ := rfl
theorem gft_wft (γ : hf_S) (x : Nat → Nat → Option V2) : gft (wft γ x) = x := rfl
