section
-- ===== PART A: goes FIRST, ahead of the names: the tables' words, and 'selects' of the private methods out of them =====
/-- a private method of a class that the tables say can be made, by its rows of tables_1 -/
def lw_okq (q : MethodName × Nat) : Prop := (q.1.cls ≠ "java/lang/invoke/MethodHandle" ∧ q.1.cls ≠ "java/lang/invoke/VarHandle") ∧ Cond.instantiable q.1.cls q.2 ∈ tables_1 ∧ Cond.privateMethod q.1 ∈ tables_1 ∧ Cond.instanceMethod q.1 ∈ tables_1
theorem lw_p0 : lw_okq (⟨"TokenHouse", "nodeAt", "(I)LTokenHouse$Node;"⟩, 13) := ⟨⟨by decide +kernel, by decide +kernel⟩, List.mem_of_getElem? (i := 28) (by decide +kernel), List.mem_of_getElem? (i := 187) (by decide +kernel), List.mem_of_getElem? (i := 188) (by decide +kernel)⟩
theorem lw_p1 : lw_okq (⟨"java/util/ArrayList", "add", "(Ljava/lang/Object;[Ljava/lang/Object;I)V"⟩, 3) := ⟨⟨by decide +kernel, by decide +kernel⟩, List.mem_of_getElem? (i := 53) (by decide +kernel), List.mem_of_getElem? (i := 246) (by decide +kernel), List.mem_of_getElem? (i := 247) (by decide +kernel)⟩
theorem lw_p2 : lw_okq (⟨"java/util/ArrayList", "grow", "()[Ljava/lang/Object;"⟩, 3) := ⟨⟨by decide +kernel, by decide +kernel⟩, List.mem_of_getElem? (i := 53) (by decide +kernel), List.mem_of_getElem? (i := 250) (by decide +kernel), List.mem_of_getElem? (i := 251) (by decide +kernel)⟩
theorem lw_p3 : lw_okq (⟨"java/util/ArrayList", "grow", "(I)[Ljava/lang/Object;"⟩, 3) := ⟨⟨by decide +kernel, by decide +kernel⟩, List.mem_of_getElem? (i := 53) (by decide +kernel), List.mem_of_getElem? (i := 254) (by decide +kernel), List.mem_of_getElem? (i := 255) (by decide +kernel)⟩
theorem lw_p4 : lw_okq (⟨"TokenHouse", "come", "(LTokenHouse$Node;ILTokenHouse$Value;I)V"⟩, 13) := ⟨⟨by decide +kernel, by decide +kernel⟩, List.mem_of_getElem? (i := 28) (by decide +kernel), List.mem_of_getElem? (i := 308) (by decide +kernel), List.mem_of_getElem? (i := 309) (by decide +kernel)⟩
theorem lw_p5 : lw_okq (⟨"java/util/ArrayList", "fastRemove", "([Ljava/lang/Object;I)V"⟩, 3) := ⟨⟨by decide +kernel, by decide +kernel⟩, List.mem_of_getElem? (i := 53) (by decide +kernel), List.mem_of_getElem? (i := 367) (by decide +kernel), List.mem_of_getElem? (i := 368) (by decide +kernel)⟩
theorem lw_p6 : lw_okq (⟨"java/lang/Throwable", "fillInStackTrace", "(I)Ljava/lang/Throwable;"⟩, 6) := ⟨⟨by decide +kernel, by decide +kernel⟩, List.mem_of_getElem? (i := 479) (by decide +kernel), List.mem_of_getElem? (i := 477) (by decide +kernel), List.mem_of_getElem? (i := 478) (by decide +kernel)⟩
theorem lw_p7 : lw_okq (⟨"TokenHouse", "go", "(LTokenHouse$Frame;)V"⟩, 13) := ⟨⟨by decide +kernel, by decide +kernel⟩, List.mem_of_getElem? (i := 28) (by decide +kernel), List.mem_of_getElem? (i := 581) (by decide +kernel), List.mem_of_getElem? (i := 582) (by decide +kernel)⟩
theorem lw_p8 : lw_okq (⟨"TokenHouse", "give", "(LTokenHouse$Node;LTokenHouse$Value;I)V"⟩, 13) := ⟨⟨by decide +kernel, by decide +kernel⟩, List.mem_of_getElem? (i := 28) (by decide +kernel), List.mem_of_getElem? (i := 590) (by decide +kernel), List.mem_of_getElem? (i := 591) (by decide +kernel)⟩
theorem lw_p9 : lw_okq (⟨"TokenHouse", "choose", "(LTokenHouse$Node;ILTokenHouse$Value;LTokenHouse$Value;)V"⟩, 13) := ⟨⟨by decide +kernel, by decide +kernel⟩, List.mem_of_getElem? (i := 28) (by decide +kernel), List.mem_of_getElem? (i := 595) (by decide +kernel), List.mem_of_getElem? (i := 596) (by decide +kernel)⟩
theorem lw_p10 : lw_okq (⟨"TokenHouse", "giveOnSide", "(LTokenHouse$Node;ILTokenHouse$Value;I)V"⟩, 13) := ⟨⟨by decide +kernel, by decide +kernel⟩, List.mem_of_getElem? (i := 28) (by decide +kernel), List.mem_of_getElem? (i := 599) (by decide +kernel), List.mem_of_getElem? (i := 600) (by decide +kernel)⟩
theorem lw_p11 : lw_okq (⟨"TokenHouse", "move", "(LTokenHouse$Node;ILTokenHouse$Value;)V"⟩, 13) := ⟨⟨by decide +kernel, by decide +kernel⟩, List.mem_of_getElem? (i := 28) (by decide +kernel), List.mem_of_getElem? (i := 604) (by decide +kernel), List.mem_of_getElem? (i := 605) (by decide +kernel)⟩
theorem lw_p12 : lw_okq (⟨"TokenHouse", "contextBehind", "(LTokenHouse$Node;I)I"⟩, 13) := ⟨⟨by decide +kernel, by decide +kernel⟩, List.mem_of_getElem? (i := 28) (by decide +kernel), List.mem_of_getElem? (i := 608) (by decide +kernel), List.mem_of_getElem? (i := 609) (by decide +kernel)⟩
theorem lw_p13 : lw_okq (⟨"TokenHouse", "enterCall", "(LTokenHouse$Node;ILTokenHouse$Value;)V"⟩, 13) := ⟨⟨by decide +kernel, by decide +kernel⟩, List.mem_of_getElem? (i := 28) (by decide +kernel), List.mem_of_getElem? (i := 630) (by decide +kernel), List.mem_of_getElem? (i := 631) (by decide +kernel)⟩
theorem lw_p14 : lw_okq (⟨"TokenHouse", "leaveCall", "(ILTokenHouse$Value;)V"⟩, 13) := ⟨⟨by decide +kernel, by decide +kernel⟩, List.mem_of_getElem? (i := 28) (by decide +kernel), List.mem_of_getElem? (i := 634) (by decide +kernel), List.mem_of_getElem? (i := 635) (by decide +kernel)⟩
theorem lw_p15 : lw_okq (⟨"TokenHouse", "makeArray", "(LTokenHouse$Node;IJ)V"⟩, 13) := ⟨⟨by decide +kernel, by decide +kernel⟩, List.mem_of_getElem? (i := 28) (by decide +kernel), List.mem_of_getElem? (i := 642) (by decide +kernel), List.mem_of_getElem? (i := 643) (by decide +kernel)⟩
def lw_privs_1 : List (MethodName × Nat) := [(⟨"TokenHouse", "nodeAt", "(I)LTokenHouse$Node;"⟩, 13), (⟨"java/util/ArrayList", "add", "(Ljava/lang/Object;[Ljava/lang/Object;I)V"⟩, 3), (⟨"java/util/ArrayList", "grow", "()[Ljava/lang/Object;"⟩, 3), (⟨"java/util/ArrayList", "grow", "(I)[Ljava/lang/Object;"⟩, 3), (⟨"TokenHouse", "come", "(LTokenHouse$Node;ILTokenHouse$Value;I)V"⟩, 13), (⟨"java/util/ArrayList", "fastRemove", "([Ljava/lang/Object;I)V"⟩, 3), (⟨"java/lang/Throwable", "fillInStackTrace", "(I)Ljava/lang/Throwable;"⟩, 6), (⟨"TokenHouse", "go", "(LTokenHouse$Frame;)V"⟩, 13), (⟨"TokenHouse", "give", "(LTokenHouse$Node;LTokenHouse$Value;I)V"⟩, 13), (⟨"TokenHouse", "choose", "(LTokenHouse$Node;ILTokenHouse$Value;LTokenHouse$Value;)V"⟩, 13), (⟨"TokenHouse", "giveOnSide", "(LTokenHouse$Node;ILTokenHouse$Value;I)V"⟩, 13), (⟨"TokenHouse", "move", "(LTokenHouse$Node;ILTokenHouse$Value;)V"⟩, 13), (⟨"TokenHouse", "contextBehind", "(LTokenHouse$Node;I)I"⟩, 13), (⟨"TokenHouse", "enterCall", "(LTokenHouse$Node;ILTokenHouse$Value;)V"⟩, 13), (⟨"TokenHouse", "leaveCall", "(ILTokenHouse$Value;)V"⟩, 13), (⟨"TokenHouse", "makeArray", "(LTokenHouse$Node;IJ)V"⟩, 13)]
theorem lw_r1 : ∀ q ∈ lw_privs_1, lw_okq q := List.forall_mem_cons.mpr ⟨lw_p0, List.forall_mem_cons.mpr ⟨lw_p1, List.forall_mem_cons.mpr ⟨lw_p2, List.forall_mem_cons.mpr ⟨lw_p3, List.forall_mem_cons.mpr ⟨lw_p4, List.forall_mem_cons.mpr ⟨lw_p5, List.forall_mem_cons.mpr ⟨lw_p6, List.forall_mem_cons.mpr ⟨lw_p7, List.forall_mem_cons.mpr ⟨lw_p8, List.forall_mem_cons.mpr ⟨lw_p9, List.forall_mem_cons.mpr ⟨lw_p10, List.forall_mem_cons.mpr ⟨lw_p11, List.forall_mem_cons.mpr ⟨lw_p12, List.forall_mem_cons.mpr ⟨lw_p13, List.forall_mem_cons.mpr ⟨lw_p14, List.forall_mem_cons.mpr ⟨lw_p15, fun _ h => absurd h List.not_mem_nil⟩⟩⟩⟩⟩⟩⟩⟩⟩⟩⟩⟩⟩⟩⟩⟩
theorem lw_p16 : lw_okq (⟨"TokenHouse", "fetch", "(LTokenHouse$Node;ILTokenHouse$Cell;)V"⟩, 13) := ⟨⟨by decide +kernel, by decide +kernel⟩, List.mem_of_getElem? (i := 28) (by decide +kernel), List.mem_of_getElem? (i := 674) (by decide +kernel), List.mem_of_getElem? (i := 675) (by decide +kernel)⟩
theorem lw_p17 : lw_okq (⟨"TokenHouse", "store", "(LTokenHouse$Node;ILTokenHouse$Cell;LTokenHouse$Value;)V"⟩, 13) := ⟨⟨by decide +kernel, by decide +kernel⟩, List.mem_of_getElem? (i := 28) (by decide +kernel), List.mem_of_getElem? (i := 683) (by decide +kernel), List.mem_of_getElem? (i := 684) (by decide +kernel)⟩
theorem lw_p18 : lw_okq (⟨"TokenHouseModel", "raise", "(I)I"⟩, 41) := ⟨⟨by decide +kernel, by decide +kernel⟩, List.mem_of_getElem? (i := 748) (by decide +kernel), List.mem_of_getElem? (i := 887) (by decide +kernel), List.mem_of_getElem? (i := 888) (by decide +kernel)⟩
theorem lw_p19 : lw_okq (⟨"TokenHouseModel", "isNode", "(I)Z"⟩, 41) := ⟨⟨by decide +kernel, by decide +kernel⟩, List.mem_of_getElem? (i := 748) (by decide +kernel), List.mem_of_getElem? (i := 895) (by decide +kernel), List.mem_of_getElem? (i := 896) (by decide +kernel)⟩
theorem lw_p20 : lw_okq (⟨"TokenHouseModel", "comes", "(IIIIJ)V"⟩, 41) := ⟨⟨by decide +kernel, by decide +kernel⟩, List.mem_of_getElem? (i := 748) (by decide +kernel), List.mem_of_getElem? (i := 906) (by decide +kernel), List.mem_of_getElem? (i := 907) (by decide +kernel)⟩
theorem lw_p21 : lw_okq (⟨"TokenHouseModel", "waits", "(III)I"⟩, 41) := ⟨⟨by decide +kernel, by decide +kernel⟩, List.mem_of_getElem? (i := 748) (by decide +kernel), List.mem_of_getElem? (i := 910) (by decide +kernel), List.mem_of_getElem? (i := 911) (by decide +kernel)⟩
theorem lw_p22 : lw_okq (⟨"TokenHouseModel", "gather", "(II)V"⟩, 41) := ⟨⟨by decide +kernel, by decide +kernel⟩, List.mem_of_getElem? (i := 748) (by decide +kernel), List.mem_of_getElem? (i := 914) (by decide +kernel), List.mem_of_getElem? (i := 915) (by decide +kernel)⟩
theorem lw_p23 : lw_okq (⟨"TokenHouseModel", "go", "(I)V"⟩, 41) := ⟨⟨by decide +kernel, by decide +kernel⟩, List.mem_of_getElem? (i := 748) (by decide +kernel), List.mem_of_getElem? (i := 924) (by decide +kernel), List.mem_of_getElem? (i := 925) (by decide +kernel)⟩
theorem lw_p24 : lw_okq (⟨"TokenHouseModel", "take", "(I)V"⟩, 41) := ⟨⟨by decide +kernel, by decide +kernel⟩, List.mem_of_getElem? (i := 748) (by decide +kernel), List.mem_of_getElem? (i := 928) (by decide +kernel), List.mem_of_getElem? (i := 929) (by decide +kernel)⟩
theorem lw_p25 : lw_okq (⟨"TokenHouseModel", "send", "(IIIIJ)V"⟩, 41) := ⟨⟨by decide +kernel, by decide +kernel⟩, List.mem_of_getElem? (i := 748) (by decide +kernel), List.mem_of_getElem? (i := 932) (by decide +kernel), List.mem_of_getElem? (i := 933) (by decide +kernel)⟩
theorem lw_p26 : lw_okq (⟨"TokenHouseModel", "reckon", "(II)V"⟩, 41) := ⟨⟨by decide +kernel, by decide +kernel⟩, List.mem_of_getElem? (i := 748) (by decide +kernel), List.mem_of_getElem? (i := 936) (by decide +kernel), List.mem_of_getElem? (i := 937) (by decide +kernel)⟩
theorem lw_p27 : lw_okq (⟨"TokenHouseModel", "errorOf", "(I)I"⟩, 41) := ⟨⟨by decide +kernel, by decide +kernel⟩, List.mem_of_getElem? (i := 748) (by decide +kernel), List.mem_of_getElem? (i := 940) (by decide +kernel), List.mem_of_getElem? (i := 941) (by decide +kernel)⟩
theorem lw_p28 : lw_okq (⟨"TokenHouseModel", "sendError", "(III)V"⟩, 41) := ⟨⟨by decide +kernel, by decide +kernel⟩, List.mem_of_getElem? (i := 748) (by decide +kernel), List.mem_of_getElem? (i := 944) (by decide +kernel), List.mem_of_getElem? (i := 945) (by decide +kernel)⟩
theorem lw_p29 : lw_okq (⟨"TokenHouseModel", "part", "(II)V"⟩, 41) := ⟨⟨by decide +kernel, by decide +kernel⟩, List.mem_of_getElem? (i := 748) (by decide +kernel), List.mem_of_getElem? (i := 949) (by decide +kernel), List.mem_of_getElem? (i := 950) (by decide +kernel)⟩
theorem lw_p30 : lw_okq (⟨"TokenHouseModel", "turn", "(II)V"⟩, 41) := ⟨⟨by decide +kernel, by decide +kernel⟩, List.mem_of_getElem? (i := 748) (by decide +kernel), List.mem_of_getElem? (i := 954) (by decide +kernel), List.mem_of_getElem? (i := 955) (by decide +kernel)⟩
theorem lw_p31 : lw_okq (⟨"TokenHouseModel", "contextOf", "(III)I"⟩, 41) := ⟨⟨by decide +kernel, by decide +kernel⟩, List.mem_of_getElem? (i := 748) (by decide +kernel), List.mem_of_getElem? (i := 958) (by decide +kernel), List.mem_of_getElem? (i := 959) (by decide +kernel)⟩
def lw_privs_2 : List (MethodName × Nat) := [(⟨"TokenHouse", "fetch", "(LTokenHouse$Node;ILTokenHouse$Cell;)V"⟩, 13), (⟨"TokenHouse", "store", "(LTokenHouse$Node;ILTokenHouse$Cell;LTokenHouse$Value;)V"⟩, 13), (⟨"TokenHouseModel", "raise", "(I)I"⟩, 41), (⟨"TokenHouseModel", "isNode", "(I)Z"⟩, 41), (⟨"TokenHouseModel", "comes", "(IIIIJ)V"⟩, 41), (⟨"TokenHouseModel", "waits", "(III)I"⟩, 41), (⟨"TokenHouseModel", "gather", "(II)V"⟩, 41), (⟨"TokenHouseModel", "go", "(I)V"⟩, 41), (⟨"TokenHouseModel", "take", "(I)V"⟩, 41), (⟨"TokenHouseModel", "send", "(IIIIJ)V"⟩, 41), (⟨"TokenHouseModel", "reckon", "(II)V"⟩, 41), (⟨"TokenHouseModel", "errorOf", "(I)I"⟩, 41), (⟨"TokenHouseModel", "sendError", "(III)V"⟩, 41), (⟨"TokenHouseModel", "part", "(II)V"⟩, 41), (⟨"TokenHouseModel", "turn", "(II)V"⟩, 41), (⟨"TokenHouseModel", "contextOf", "(III)I"⟩, 41)]
theorem lw_r2 : ∀ q ∈ lw_privs_2, lw_okq q := List.forall_mem_cons.mpr ⟨lw_p16, List.forall_mem_cons.mpr ⟨lw_p17, List.forall_mem_cons.mpr ⟨lw_p18, List.forall_mem_cons.mpr ⟨lw_p19, List.forall_mem_cons.mpr ⟨lw_p20, List.forall_mem_cons.mpr ⟨lw_p21, List.forall_mem_cons.mpr ⟨lw_p22, List.forall_mem_cons.mpr ⟨lw_p23, List.forall_mem_cons.mpr ⟨lw_p24, List.forall_mem_cons.mpr ⟨lw_p25, List.forall_mem_cons.mpr ⟨lw_p26, List.forall_mem_cons.mpr ⟨lw_p27, List.forall_mem_cons.mpr ⟨lw_p28, List.forall_mem_cons.mpr ⟨lw_p29, List.forall_mem_cons.mpr ⟨lw_p30, List.forall_mem_cons.mpr ⟨lw_p31, fun _ h => absurd h List.not_mem_nil⟩⟩⟩⟩⟩⟩⟩⟩⟩⟩⟩⟩⟩⟩⟩⟩
theorem lw_p32 : lw_okq (⟨"TokenHouseModel", "callOrBack", "(II)V"⟩, 41) := ⟨⟨by decide +kernel, by decide +kernel⟩, List.mem_of_getElem? (i := 748) (by decide +kernel), List.mem_of_getElem? (i := 962) (by decide +kernel), List.mem_of_getElem? (i := 963) (by decide +kernel)⟩
theorem lw_p33 : lw_okq (⟨"TokenHouseModel", "make", "(II)V"⟩, 41) := ⟨⟨by decide +kernel, by decide +kernel⟩, List.mem_of_getElem? (i := 748) (by decide +kernel), List.mem_of_getElem? (i := 966) (by decide +kernel), List.mem_of_getElem? (i := 967) (by decide +kernel)⟩
theorem lw_p34 : lw_okq (⟨"TokenHouseModel", "keepResult", "(I)V"⟩, 41) := ⟨⟨by decide +kernel, by decide +kernel⟩, List.mem_of_getElem? (i := 748) (by decide +kernel), List.mem_of_getElem? (i := 971) (by decide +kernel), List.mem_of_getElem? (i := 972) (by decide +kernel)⟩
theorem lw_p35 : lw_okq (⟨"TokenHouseModel", "atCell", "(II)V"⟩, 41) := ⟨⟨by decide +kernel, by decide +kernel⟩, List.mem_of_getElem? (i := 748) (by decide +kernel), List.mem_of_getElem? (i := 975) (by decide +kernel), List.mem_of_getElem? (i := 976) (by decide +kernel)⟩
theorem lw_p36 : lw_okq (⟨"TokenHouseModel", "store", "(III)V"⟩, 41) := ⟨⟨by decide +kernel, by decide +kernel⟩, List.mem_of_getElem? (i := 748) (by decide +kernel), List.mem_of_getElem? (i := 979) (by decide +kernel), List.mem_of_getElem? (i := 980) (by decide +kernel)⟩
theorem lw_p37 : lw_okq (⟨"TokenHouseModel", "serve", "(I)V"⟩, 41) := ⟨⟨by decide +kernel, by decide +kernel⟩, List.mem_of_getElem? (i := 748) (by decide +kernel), List.mem_of_getElem? (i := 983) (by decide +kernel), List.mem_of_getElem? (i := 984) (by decide +kernel)⟩
def lw_privs_3 : List (MethodName × Nat) := [(⟨"TokenHouseModel", "callOrBack", "(II)V"⟩, 41), (⟨"TokenHouseModel", "make", "(II)V"⟩, 41), (⟨"TokenHouseModel", "keepResult", "(I)V"⟩, 41), (⟨"TokenHouseModel", "atCell", "(II)V"⟩, 41), (⟨"TokenHouseModel", "store", "(III)V"⟩, 41), (⟨"TokenHouseModel", "serve", "(I)V"⟩, 41)]
theorem lw_r3 : ∀ q ∈ lw_privs_3, lw_okq q := List.forall_mem_cons.mpr ⟨lw_p32, List.forall_mem_cons.mpr ⟨lw_p33, List.forall_mem_cons.mpr ⟨lw_p34, List.forall_mem_cons.mpr ⟨lw_p35, List.forall_mem_cons.mpr ⟨lw_p36, List.forall_mem_cons.mpr ⟨lw_p37, fun _ h => absurd h List.not_mem_nil⟩⟩⟩⟩⟩⟩
def lw_privs : List (MethodName × Nat) := lw_privs_1 ++ (lw_privs_2 ++ (lw_privs_3))
def lw_tbl : List Cond := k2_sels lw_privs ++ tables_1
theorem lw_privs_ok : ∀ q ∈ lw_privs, lw_okq q := by
  show ∀ q ∈ lw_privs_1 ++ (lw_privs_2 ++ (lw_privs_3)), lw_okq q
  exact List.forall_mem_append.mpr ⟨lw_r1, List.forall_mem_append.mpr ⟨lw_r2, lw_r3⟩⟩
theorem zz_wide {p : Program} {l : Launch} {e : Env} {R : Room} {s : State} {m : MethodId} {args : Array Value} {below : List Frame} {meth : Method} {c : Code} {T : State} {locs : List Loc} {cells slots : Nat} (X : Stand p l e R s m args below meth c T locs cells slots) (hlocks : meth.locks = false) (a : Addr) : True := (fun _ => trivial) (@Jvm.Stand.outThrough)
end
section
/-! ===== BEGIN printed: names, fields, word lists, decode rows ===== -/
def RX0 : String := "TokenHouse$Arc"
def TX0 : u_T := fun k => match k with
  | 0 => ("TokenHouse$Arc", "side", "I", true)
  | 1 => ("TokenHouse$Arc", "to", "LTokenHouse$Node;", true)
  | _ => ("TokenHouse$Arc", "port", "I", true)
def tyX0 : Nat → FieldType := fun k => match k with
  | 0 => .int
  | 1 => .object "TokenHouse$Node"
  | _ => .int
abbrev wsX00 : List Cond := u_ws RX0 TX0 3
theorem nmX0 : ∀ a, a < 3 → ∀ b, b < 3 → a ≠ b → (TX0 a).2.1 ≠ (TX0 b).2.1 := by decide +kernel
theorem tyX0_ok : ∀ k, k < 3 → parseFieldDescriptor (TX0 k).2.2.1 = some (tyX0 k) := by decide +kernel
abbrev cX0_init : ByteArray := prog_2_method_1_code
def yX0_init : MethodName := ⟨RX0, "<init>", "(ILTokenHouse$Node;I)V"⟩
def RX1 : String := "TokenHouse$Cell"
def TX1 : u_T := fun k => match k with
  | 0 => ("TokenHouse$Cell", "kept", "Ljava/util/ArrayList;", true)
  | _ => ("TokenHouse$Cell", "value", "LTokenHouse$Value;", false)
def tyX1 : Nat → FieldType := fun k => match k with
  | 0 => .object "java/util/ArrayList"
  | _ => .object "TokenHouse$Value"
abbrev wsX10 : List Cond := u_ws RX1 TX1 2
theorem nmX1 : ∀ a, a < 2 → ∀ b, b < 2 → a ≠ b → (TX1 a).2.1 ≠ (TX1 b).2.1 := by decide +kernel
theorem tyX1_ok : ∀ k, k < 2 → parseFieldDescriptor (TX1 k).2.2.1 = some (tyX1 k) := by decide +kernel
abbrev cX1_init : ByteArray := prog_3_method_1_code
def yX1_init : MethodName := ⟨RX1, "<init>", "(LTokenHouse$Value;)V"⟩
abbrev cX1_isWritten : ByteArray := prog_3_method_2_code
def yX1_isWritten : MethodName := ⟨RX1, "isWritten", "()Z"⟩
def RX2 : String := "TokenHouse$Cells"
def TX2 : u_T := fun k => match k with
  | 0 => ("TokenHouse$Cells", "nothing", "LTokenHouse$Value;", true)
  | 1 => ("TokenHouse$Cells", "row", "[LTokenHouse$Cell;", true)
  | 2 => ("TokenHouse$Cells", "lengths", "[I", true)
  | _ => ("TokenHouse$Cells", "arrays", "I", false)
def tyX2 : Nat → FieldType := fun k => match k with
  | 0 => .object "TokenHouse$Value"
  | 1 => .array (.object "TokenHouse$Cell")
  | 2 => .array .int
  | _ => .int
abbrev wsX20 : List Cond := u_ws RX2 TX2 4
theorem nmX2 : ∀ a, a < 4 → ∀ b, b < 4 → a ≠ b → (TX2 a).2.1 ≠ (TX2 b).2.1 := by decide +kernel
theorem tyX2_ok : ∀ k, k < 4 → parseFieldDescriptor (TX2 k).2.2.1 = some (tyX2 k) := by decide +kernel
abbrev cX2_init : ByteArray := prog_4_method_1_code
def yX2_init : MethodName := ⟨RX2, "<init>", "(LTokenHouse$Value;)V"⟩
abbrev cX2_makeArray : ByteArray := prog_4_method_2_code
def yX2_makeArray : MethodName := ⟨RX2, "makeArray", "(I)I"⟩
abbrev cX2_at : ByteArray := prog_4_method_3_code
def yX2_at : MethodName := ⟨RX2, "at", "(JJ)LTokenHouse$Cell;"⟩
abbrev cX2_forgetAll : ByteArray := prog_4_method_4_code
def yX2_forgetAll : MethodName := ⟨RX2, "forgetAll", "()V"⟩
def RX3 : String := "TokenHouse$Contexts"
def TX3 : u_T := fun k => match k with
  | 0 => ("TokenHouse$Contexts", "outside", "[I", true)
  | 1 => ("TokenHouse$Contexts", "site", "[I", true)
  | 2 => ("TokenHouse$Contexts", "round", "[I", true)
  | _ => ("TokenHouse$Contexts", "count", "I", false)
def tyX3 : Nat → FieldType := fun k => match k with
  | 0 => .array .int
  | 1 => .array .int
  | 2 => .array .int
  | _ => .int
abbrev wsX30 : List Cond := u_ws RX3 TX3 4
theorem nmX3 : ∀ a, a < 4 → ∀ b, b < 4 → a ≠ b → (TX3 a).2.1 ≠ (TX3 b).2.1 := by decide +kernel
theorem tyX3_ok : ∀ k, k < 4 → parseFieldDescriptor (TX3 k).2.2.1 = some (tyX3 k) := by decide +kernel
abbrev cX3_init : ByteArray := prog_5_method_1_code
def yX3_init : MethodName := ⟨RX3, "<init>", "()V"⟩
abbrev cX3_has : ByteArray := prog_5_method_2_code
def yX3_has : MethodName := ⟨RX3, "has", "(I)Z"⟩
abbrev cX3_numberOf : ByteArray := prog_5_method_3_code
def yX3_numberOf : MethodName := ⟨RX3, "numberOf", "(III)I"⟩
abbrev cX3_nextRoundOf : ByteArray := prog_5_method_4_code
def yX3_nextRoundOf : MethodName := ⟨RX3, "nextRoundOf", "(I)I"⟩
abbrev cX3_firstRoundOf : ByteArray := prog_5_method_5_code
def yX3_firstRoundOf : MethodName := ⟨RX3, "firstRoundOf", "(I)I"⟩
abbrev cX3_outsideOf : ByteArray := prog_5_method_6_code
def yX3_outsideOf : MethodName := ⟨RX3, "outsideOf", "(I)I"⟩
abbrev cX3_siteOf : ByteArray := prog_5_method_7_code
def yX3_siteOf : MethodName := ⟨RX3, "siteOf", "(I)I"⟩
abbrev cX3_forgetAll : ByteArray := prog_5_method_8_code
def yX3_forgetAll : MethodName := ⟨RX3, "forgetAll", "()V"⟩
def RX4 : String := "TokenHouse$Frame"
def TX4 : u_T := fun k => match k with
  | 0 => ("TokenHouse$Frame", "nothing", "LTokenHouse$Value;", true)
  | 1 => ("TokenHouse$Frame", "values", "[LTokenHouse$Value;", true)
  | 2 => ("TokenHouse$Frame", "node", "LTokenHouse$Node;", false)
  | 3 => ("TokenHouse$Frame", "context", "I", false)
  | _ => ("TokenHouse$Frame", "came", "I", false)
def tyX4 : Nat → FieldType := fun k => match k with
  | 0 => .object "TokenHouse$Value"
  | 1 => .array (.object "TokenHouse$Value")
  | 2 => .object "TokenHouse$Node"
  | 3 => .int
  | _ => .int
abbrev wsX40 : List Cond := u_ws RX4 TX4 5
theorem nmX4 : ∀ a, a < 5 → ∀ b, b < 5 → a ≠ b → (TX4 a).2.1 ≠ (TX4 b).2.1 := by decide +kernel
theorem tyX4_ok : ∀ k, k < 5 → parseFieldDescriptor (TX4 k).2.2.1 = some (tyX4 k) := by decide +kernel
abbrev cX4_init : ByteArray := prog_6_method_1_code
def yX4_init : MethodName := ⟨RX4, "<init>", "(LTokenHouse$Value;LTokenHouse$Node;I)V"⟩
abbrev cX4_holds : ByteArray := prog_6_method_2_code
def yX4_holds : MethodName := ⟨RX4, "holds", "(I)Z"⟩
abbrev cX4_put : ByteArray := prog_6_method_3_code
def yX4_put : MethodName := ⟨RX4, "put", "(ILTokenHouse$Value;)V"⟩
abbrev cX4_empty : ByteArray := prog_6_method_4_code
def yX4_empty : MethodName := ⟨RX4, "empty", "()V"⟩
def RX5 : String := "TokenHouse$Frames"
def TX5 : u_T := fun k => match k with
  | 0 => ("TokenHouse$Frames", "nothing", "LTokenHouse$Value;", true)
  | 1 => ("TokenHouse$Frames", "made", "Ljava/util/ArrayList;", true)
  | _ => ("TokenHouse$Frames", "free", "Ljava/util/ArrayList;", true)
def tyX5 : Nat → FieldType := fun k => match k with
  | 0 => .object "TokenHouse$Value"
  | 1 => .object "java/util/ArrayList"
  | _ => .object "java/util/ArrayList"
abbrev wsX50 : List Cond := u_ws RX5 TX5 3
theorem nmX5 : ∀ a, a < 3 → ∀ b, b < 3 → a ≠ b → (TX5 a).2.1 ≠ (TX5 b).2.1 := by decide +kernel
theorem tyX5_ok : ∀ k, k < 3 → parseFieldDescriptor (TX5 k).2.2.1 = some (tyX5 k) := by decide +kernel
abbrev cX5_init : ByteArray := prog_7_method_1_code
def yX5_init : MethodName := ⟨RX5, "<init>", "(LTokenHouse$Value;)V"⟩
abbrev cX5_take : ByteArray := prog_7_method_2_code
def yX5_take : MethodName := ⟨RX5, "take", "(LTokenHouse$Node;I)LTokenHouse$Frame;"⟩
abbrev cX5_takeBack : ByteArray := prog_7_method_3_code
def yX5_takeBack : MethodName := ⟨RX5, "takeBack", "(LTokenHouse$Frame;)V"⟩
abbrev cX5_takeAllBack : ByteArray := prog_7_method_4_code
def yX5_takeAllBack : MethodName := ⟨RX5, "takeAllBack", "()V"⟩
def RX6 : String := "TokenHouse$Node"
def TX6 : u_T := fun k => match k with
  | 0 => ("TokenHouse$Node", "number", "I", true)
  | 1 => ("TokenHouse$Node", "op", "I", true)
  | 2 => ("TokenHouse$Node", "n", "I", true)
  | 3 => ("TokenHouse$Node", "ports", "I", true)
  | 4 => ("TokenHouse$Node", "wantedX", "I", true)
  | 5 => ("TokenHouse$Node", "wantedY", "I", true)
  | 6 => ("TokenHouse$Node", "arcs", "Ljava/util/ArrayList;", true)
  | _ => ("TokenHouse$Node", "frames", "Ljava/util/ArrayList;", true)
def tyX6 : Nat → FieldType := fun k => match k with
  | 0 => .int
  | 1 => .int
  | 2 => .int
  | 3 => .int
  | 4 => .int
  | 5 => .int
  | 6 => .object "java/util/ArrayList"
  | _ => .object "java/util/ArrayList"
abbrev wsX60 : List Cond := u_ws RX6 TX6 8
theorem nmX6 : ∀ a, a < 8 → ∀ b, b < 8 → a ≠ b → (TX6 a).2.1 ≠ (TX6 b).2.1 := by decide +kernel
theorem tyX6_ok : ∀ k, k < 8 → parseFieldDescriptor (TX6 k).2.2.1 = some (tyX6 k) := by decide +kernel
abbrev cX6_init : ByteArray := prog_8_method_1_code
def yX6_init : MethodName := ⟨RX6, "<init>", "(IIIIII)V"⟩
abbrev cX6_hasSide : ByteArray := prog_8_method_2_code
def yX6_hasSide : MethodName := ⟨RX6, "hasSide", "(I)Z"⟩
abbrev cX6_hasPort : ByteArray := prog_8_method_3_code
def yX6_hasPort : MethodName := ⟨RX6, "hasPort", "(I)Z"⟩
abbrev cX6_addArc : ByteArray := prog_8_method_4_code
def yX6_addArc : MethodName := ⟨RX6, "addArc", "(ILTokenHouse$Node;I)Z"⟩
abbrev cX6_frameIn : ByteArray := prog_8_method_5_code
def yX6_frameIn : MethodName := ⟨RX6, "frameIn", "(I)LTokenHouse$Frame;"⟩
abbrev cX6_dropFrameIn : ByteArray := prog_8_method_6_code
def yX6_dropFrameIn : MethodName := ⟨RX6, "dropFrameIn", "(I)V"⟩
def RX7 : String := "TokenHouse$Result"
def TX7 : u_T := fun k => match k with
  | 0 => ("TokenHouse$Result", "value", "LTokenHouse$Value;", true)
  | _ => ("TokenHouse$Result", "context", "I", true)
def tyX7 : Nat → FieldType := fun k => match k with
  | 0 => .object "TokenHouse$Value"
  | _ => .int
abbrev wsX70 : List Cond := u_ws RX7 TX7 2
theorem nmX7 : ∀ a, a < 2 → ∀ b, b < 2 → a ≠ b → (TX7 a).2.1 ≠ (TX7 b).2.1 := by decide +kernel
theorem tyX7_ok : ∀ k, k < 2 → parseFieldDescriptor (TX7 k).2.2.1 = some (tyX7 k) := by decide +kernel
abbrev cX7_init : ByteArray := prog_9_method_1_code
def yX7_init : MethodName := ⟨RX7, "<init>", "(LTokenHouse$Value;I)V"⟩
def RX8 : String := "TokenHouse$Value"
def TX8 : u_T := fun k => match k with
  | 0 => ("TokenHouse$Value", "kind", "I", true)
  | _ => ("TokenHouse$Value", "number", "J", true)
def tyX8 : Nat → FieldType := fun k => match k with
  | 0 => .int
  | _ => .long
abbrev wsX80 : List Cond := u_ws RX8 TX8 2
theorem nmX8 : ∀ a, a < 2 → ∀ b, b < 2 → a ≠ b → (TX8 a).2.1 ≠ (TX8 b).2.1 := by decide +kernel
theorem tyX8_ok : ∀ k, k < 2 → parseFieldDescriptor (TX8 k).2.2.1 = some (tyX8 k) := by decide +kernel
abbrev cX8_init : ByteArray := prog_10_method_1_code
def yX8_init : MethodName := ⟨RX8, "<init>", "(IJ)V"⟩
def RX9 : String := "TokenHouse"
def TX9 : u_T := fun k => match k with
  | 0 => ("TokenHouse", "nothing", "LTokenHouse$Value;", true)
  | 1 => ("TokenHouse", "nodes", "Ljava/util/ArrayList;", true)
  | 2 => ("TokenHouse", "frames", "LTokenHouse$Frames;", true)
  | 3 => ("TokenHouse", "readyFrames", "Ljava/util/ArrayList;", true)
  | 4 => ("TokenHouse", "contexts", "LTokenHouse$Contexts;", true)
  | 5 => ("TokenHouse", "cells", "LTokenHouse$Cells;", true)
  | 6 => ("TokenHouse", "results", "Ljava/util/ArrayList;", true)
  | 7 => ("TokenHouse", "waitingTokens", "I", false)
  | 8 => ("TokenHouse", "keptFetches", "I", false)
  | 9 => ("TokenHouse", "trap", "I", false)
  | 10 => ("TokenHouse", "wentSinceClear", "I", false)
  | 11 => ("TokenHouse", "wentInAll", "I", false)
  | _ => ("TokenHouse", "begun", "Z", false)
def tyX9 : Nat → FieldType := fun k => match k with
  | 0 => .object "TokenHouse$Value"
  | 1 => .object "java/util/ArrayList"
  | 2 => .object "TokenHouse$Frames"
  | 3 => .object "java/util/ArrayList"
  | 4 => .object "TokenHouse$Contexts"
  | 5 => .object "TokenHouse$Cells"
  | 6 => .object "java/util/ArrayList"
  | 7 => .int
  | 8 => .int
  | 9 => .int
  | 10 => .int
  | 11 => .int
  | _ => .boolean
abbrev wsX90 : List Cond := u_ws RX9 TX9 13
theorem nmX9 : ∀ a, a < 13 → ∀ b, b < 13 → a ≠ b → (TX9 a).2.1 ≠ (TX9 b).2.1 := by decide +kernel
theorem tyX9_ok : ∀ k, k < 13 → parseFieldDescriptor (TX9 k).2.2.1 = some (tyX9 k) := by decide +kernel
abbrev cX9_init : ByteArray := prog_1_method_1_code
def yX9_init : MethodName := ⟨RX9, "<init>", "()V"⟩
abbrev cX9_node : ByteArray := prog_1_method_2_code
def yX9_node : MethodName := ⟨RX9, "node", "(II)I"⟩
abbrev cX9_arc : ByteArray := prog_1_method_3_code
def yX9_arc : MethodName := ⟨RX9, "arc", "(IIII)Z"⟩
abbrev cX9_token : ByteArray := prog_1_method_4_code
def yX9_token : MethodName := ⟨RX9, "token", "(IIJ)Z"⟩
abbrev cX9_run : ByteArray := prog_1_method_5_code
def yX9_run : MethodName := ⟨RX9, "run", "(IJ)I"⟩
abbrev cX9_clear : ByteArray := prog_1_method_6_code
def yX9_clear : MethodName := ⟨RX9, "clear", "(Z)V"⟩
abbrev cX9_ready : ByteArray := prog_1_method_7_code
def yX9_ready : MethodName := ⟨RX9, "ready", "(II)I"⟩
abbrev cX9_result : ByteArray := prog_1_method_8_code
def yX9_result : MethodName := ⟨RX9, "result", "(II)J"⟩
abbrev cX9_context : ByteArray := prog_1_method_9_code
def yX9_context : MethodName := ⟨RX9, "context", "(II)I"⟩
abbrev cX9_cell : ByteArray := prog_1_method_10_code
def yX9_cell : MethodName := ⟨RX9, "cell", "(III)J"⟩
abbrev cX9_waiting : ByteArray := prog_1_method_11_code
def yX9_waiting : MethodName := ⟨RX9, "waiting", "(II)I"⟩
abbrev cX9_total : ByteArray := prog_1_method_12_code
def yX9_total : MethodName := ⟨RX9, "total", "(I)I"⟩
abbrev cX9_nodeAt : ByteArray := prog_1_method_13_code
def yX9_nodeAt : MethodName := ⟨RX9, "nodeAt", "(I)LTokenHouse$Node;"⟩
abbrev cX9_come : ByteArray := prog_1_method_14_code
def yX9_come : MethodName := ⟨RX9, "come", "(LTokenHouse$Node;ILTokenHouse$Value;I)V"⟩
abbrev cX9_give : ByteArray := prog_1_method_15_code
def yX9_give : MethodName := ⟨RX9, "give", "(LTokenHouse$Node;LTokenHouse$Value;I)V"⟩
abbrev cX9_giveOnSide : ByteArray := prog_1_method_16_code
def yX9_giveOnSide : MethodName := ⟨RX9, "giveOnSide", "(LTokenHouse$Node;ILTokenHouse$Value;I)V"⟩
abbrev cX9_go : ByteArray := prog_1_method_17_code
def yX9_go : MethodName := ⟨RX9, "go", "(LTokenHouse$Frame;)V"⟩
abbrev cX9_errorOf : ByteArray := prog_1_method_18_code
def yX9_errorOf : MethodName := ⟨RX9, "errorOf", "(LTokenHouse$Value;I)I"⟩
abbrev cX9_reckoned : ByteArray := prog_1_method_19_code
def yX9_reckoned : MethodName := ⟨RX9, "reckoned", "(LTokenHouse$Node;LTokenHouse$Value;LTokenHouse$Value;)LTokenHouse$Value;"⟩
abbrev cX9_quotient : ByteArray := prog_1_method_20_code
def yX9_quotient : MethodName := ⟨RX9, "quotient", "(JJ)LTokenHouse$Value;"⟩
abbrev cX9_choose : ByteArray := prog_1_method_21_code
def yX9_choose : MethodName := ⟨RX9, "choose", "(LTokenHouse$Node;ILTokenHouse$Value;LTokenHouse$Value;)V"⟩
abbrev cX9_move : ByteArray := prog_1_method_22_code
def yX9_move : MethodName := ⟨RX9, "move", "(LTokenHouse$Node;ILTokenHouse$Value;)V"⟩
abbrev cX9_contextBehind : ByteArray := prog_1_method_23_code
def yX9_contextBehind : MethodName := ⟨RX9, "contextBehind", "(LTokenHouse$Node;I)I"⟩
abbrev cX9_enterCall : ByteArray := prog_1_method_24_code
def yX9_enterCall : MethodName := ⟨RX9, "enterCall", "(LTokenHouse$Node;ILTokenHouse$Value;)V"⟩
abbrev cX9_leaveCall : ByteArray := prog_1_method_25_code
def yX9_leaveCall : MethodName := ⟨RX9, "leaveCall", "(ILTokenHouse$Value;)V"⟩
abbrev cX9_makeArray : ByteArray := prog_1_method_26_code
def yX9_makeArray : MethodName := ⟨RX9, "makeArray", "(LTokenHouse$Node;IJ)V"⟩
abbrev cX9_fetch : ByteArray := prog_1_method_27_code
def yX9_fetch : MethodName := ⟨RX9, "fetch", "(LTokenHouse$Node;ILTokenHouse$Cell;)V"⟩
abbrev cX9_store : ByteArray := prog_1_method_28_code
def yX9_store : MethodName := ⟨RX9, "store", "(LTokenHouse$Node;ILTokenHouse$Cell;LTokenHouse$Value;)V"⟩
def RX10 : String := "TokenHouseModel"
def TX10 : u_T := fun k => match k with
  | 0 => ("TokenHouseModel", "thrown", "I", false)
  | 1 => ("TokenHouseModel", "nodes", "I", false)
  | 2 => ("TokenHouseModel", "op", "[I", true)
  | 3 => ("TokenHouseModel", "given", "[I", true)
  | 4 => ("TokenHouseModel", "arcs", "[I", true)
  | 5 => ("TokenHouseModel", "arcSide", "[I", true)
  | 6 => ("TokenHouseModel", "arcTo", "[I", true)
  | 7 => ("TokenHouseModel", "arcPort", "[I", true)
  | 8 => ("TokenHouseModel", "begun", "Z", false)
  | 9 => ("TokenHouseModel", "contexts", "I", false)
  | 10 => ("TokenHouseModel", "in", "[I", true)
  | 11 => ("TokenHouseModel", "site", "[I", true)
  | 12 => ("TokenHouseModel", "round", "[I", true)
  | 13 => ("TokenHouseModel", "arrays", "I", false)
  | 14 => ("TokenHouseModel", "size", "[I", true)
  | 15 => ("TokenHouseModel", "cellKind", "[I", true)
  | 16 => ("TokenHouseModel", "cellValue", "[J", true)
  | 17 => ("TokenHouseModel", "tokens", "I", false)
  | 18 => ("TokenHouseModel", "atNode", "[I", true)
  | 19 => ("TokenHouseModel", "atPort", "[I", true)
  | 20 => ("TokenHouseModel", "atContext", "[I", true)
  | 21 => ("TokenHouseModel", "atKind", "[I", true)
  | 22 => ("TokenHouseModel", "atValue", "[J", true)
  | 23 => ("TokenHouseModel", "readies", "I", false)
  | 24 => ("TokenHouseModel", "readyNode", "[I", true)
  | 25 => ("TokenHouseModel", "readyContext", "[I", true)
  | 26 => ("TokenHouseModel", "readyKind", "[I", true)
  | 27 => ("TokenHouseModel", "readyValue", "[J", true)
  | 28 => ("TokenHouseModel", "keeps", "I", false)
  | 29 => ("TokenHouseModel", "keptNode", "[I", true)
  | 30 => ("TokenHouseModel", "keptContext", "[I", true)
  | 31 => ("TokenHouseModel", "keptCell", "[I", true)
  | 32 => ("TokenHouseModel", "results", "I", false)
  | 33 => ("TokenHouseModel", "resultKind", "[I", true)
  | 34 => ("TokenHouseModel", "resultValue", "[J", true)
  | 35 => ("TokenHouseModel", "resultContext", "[I", true)
  | 36 => ("TokenHouseModel", "trap", "I", false)
  | 37 => ("TokenHouseModel", "went", "I", false)
  | 38 => ("TokenHouseModel", "wentInAll", "I", false)
  | 39 => ("TokenHouseModel", "kind", "[I", true)
  | _ => ("TokenHouseModel", "value", "[J", true)
def tyX10 : Nat → FieldType := fun k => match k with
  | 0 => .int
  | 1 => .int
  | 2 => .array .int
  | 3 => .array .int
  | 4 => .array .int
  | 5 => .array .int
  | 6 => .array .int
  | 7 => .array .int
  | 8 => .boolean
  | 9 => .int
  | 10 => .array .int
  | 11 => .array .int
  | 12 => .array .int
  | 13 => .int
  | 14 => .array .int
  | 15 => .array .int
  | 16 => .array .long
  | 17 => .int
  | 18 => .array .int
  | 19 => .array .int
  | 20 => .array .int
  | 21 => .array .int
  | 22 => .array .long
  | 23 => .int
  | 24 => .array .int
  | 25 => .array .int
  | 26 => .array .int
  | 27 => .array .long
  | 28 => .int
  | 29 => .array .int
  | 30 => .array .int
  | 31 => .array .int
  | 32 => .int
  | 33 => .array .int
  | 34 => .array .long
  | 35 => .array .int
  | 36 => .int
  | 37 => .int
  | 38 => .int
  | 39 => .array .int
  | _ => .array .long
abbrev wsX100 : List Cond := u_ws RX10 TX10 41
theorem nmX10 : ∀ a, a < 41 → ∀ b, b < 41 → a ≠ b → (TX10 a).2.1 ≠ (TX10 b).2.1 := by decide +kernel
theorem tyX10_ok : ∀ k, k < 41 → parseFieldDescriptor (TX10 k).2.2.1 = some (tyX10 k) := by decide +kernel
abbrev cX10_init : ByteArray := prog_12_method_1_code
def yX10_init : MethodName := ⟨RX10, "<init>", "()V"⟩
abbrev cX10_thrown : ByteArray := prog_12_method_2_code
def yX10_thrown : MethodName := ⟨RX10, "thrown", "()I"⟩
abbrev cX10_raise : ByteArray := prog_12_method_3_code
def yX10_raise : MethodName := ⟨RX10, "raise", "(I)I"⟩
abbrev cX10_ports : ByteArray := prog_12_method_4_code
def yX10_ports : MethodName := ⟨RX10, "ports", "(I)I"⟩
abbrev cX10_isNode : ByteArray := prog_12_method_5_code
def yX10_isNode : MethodName := ⟨RX10, "isNode", "(I)Z"⟩
abbrev cX10_node : ByteArray := prog_12_method_6_code
def yX10_node : MethodName := ⟨RX10, "node", "(II)I"⟩
abbrev cX10_arc : ByteArray := prog_12_method_7_code
def yX10_arc : MethodName := ⟨RX10, "arc", "(IIII)Z"⟩
abbrev cX10_waits : ByteArray := prog_12_method_8_code
def yX10_waits : MethodName := ⟨RX10, "waits", "(III)I"⟩
abbrev cX10_comes : ByteArray := prog_12_method_9_code
def yX10_comes : MethodName := ⟨RX10, "comes", "(IIIIJ)V"⟩
abbrev cX10_gather : ByteArray := prog_12_method_10_code
def yX10_gather : MethodName := ⟨RX10, "gather", "(II)V"⟩
abbrev cX10_token : ByteArray := prog_12_method_11_code
def yX10_token : MethodName := ⟨RX10, "token", "(IIJ)Z"⟩
abbrev cX10_send : ByteArray := prog_12_method_12_code
def yX10_send : MethodName := ⟨RX10, "send", "(IIIIJ)V"⟩
abbrev cX10_contextOf : ByteArray := prog_12_method_13_code
def yX10_contextOf : MethodName := ⟨RX10, "contextOf", "(III)I"⟩
abbrev cX10_sendError : ByteArray := prog_12_method_14_code
def yX10_sendError : MethodName := ⟨RX10, "sendError", "(III)V"⟩
abbrev cX10_errorOf : ByteArray := prog_12_method_15_code
def yX10_errorOf : MethodName := ⟨RX10, "errorOf", "(I)I"⟩
abbrev cX10_take : ByteArray := prog_12_method_16_code
def yX10_take : MethodName := ⟨RX10, "take", "(I)V"⟩
abbrev cX10_go : ByteArray := prog_12_method_17_code
def yX10_go : MethodName := ⟨RX10, "go", "(I)V"⟩
abbrev cX10_keepResult : ByteArray := prog_12_method_18_code
def yX10_keepResult : MethodName := ⟨RX10, "keepResult", "(I)V"⟩
abbrev cX10_reckon : ByteArray := prog_12_method_19_code
def yX10_reckon : MethodName := ⟨RX10, "reckon", "(II)V"⟩
abbrev cX10_part : ByteArray := prog_12_method_20_code
def yX10_part : MethodName := ⟨RX10, "part", "(II)V"⟩
abbrev cX10_turn : ByteArray := prog_12_method_21_code
def yX10_turn : MethodName := ⟨RX10, "turn", "(II)V"⟩
abbrev cX10_callOrBack : ByteArray := prog_12_method_22_code
def yX10_callOrBack : MethodName := ⟨RX10, "callOrBack", "(II)V"⟩
abbrev cX10_make : ByteArray := prog_12_method_23_code
def yX10_make : MethodName := ⟨RX10, "make", "(II)V"⟩
abbrev cX10_atCell : ByteArray := prog_12_method_24_code
def yX10_atCell : MethodName := ⟨RX10, "atCell", "(II)V"⟩
abbrev cX10_store : ByteArray := prog_12_method_25_code
def yX10_store : MethodName := ⟨RX10, "store", "(III)V"⟩
abbrev cX10_serve : ByteArray := prog_12_method_26_code
def yX10_serve : MethodName := ⟨RX10, "serve", "(I)V"⟩
abbrev cX10_run : ByteArray := prog_12_method_27_code
def yX10_run : MethodName := ⟨RX10, "run", "(IJ)I"⟩
abbrev cX10_clear : ByteArray := prog_12_method_28_code
def yX10_clear : MethodName := ⟨RX10, "clear", "(Z)V"⟩
abbrev cX10_ready : ByteArray := prog_12_method_29_code
def yX10_ready : MethodName := ⟨RX10, "ready", "(II)I"⟩
abbrev cX10_result : ByteArray := prog_12_method_30_code
def yX10_result : MethodName := ⟨RX10, "result", "(II)J"⟩
abbrev cX10_context : ByteArray := prog_12_method_31_code
def yX10_context : MethodName := ⟨RX10, "context", "(II)I"⟩
abbrev cX10_cell : ByteArray := prog_12_method_32_code
def yX10_cell : MethodName := ⟨RX10, "cell", "(III)J"⟩
abbrev cX10_waiting : ByteArray := prog_12_method_33_code
def yX10_waiting : MethodName := ⟨RX10, "waiting", "(II)I"⟩
abbrev cX10_total : ByteArray := prog_12_method_34_code
def yX10_total : MethodName := ⟨RX10, "total", "(I)I"⟩
def RJx145de : String := "java/io/Serializable"
def TJx145de : u_T := fun k => match k with
  | _ => ("", "", "", false)
def tyJx145de : Nat → FieldType := fun k => match k with
  | _ => .int
abbrev wsJx145de0 : List Cond := u_ws RJx145de TJx145de 0
theorem nmJx145de : ∀ a, a < 0 → ∀ b, b < 0 → a ≠ b → (TJx145de a).2.1 ≠ (TJx145de b).2.1 := by decide +kernel
theorem tyJx145de_ok : ∀ k, k < 0 → parseFieldDescriptor (TJx145de k).2.2.1 = some (tyJx145de k) := by decide +kernel
def RJx8e188 : String := "java/lang/Cloneable"
def TJx8e188 : u_T := fun k => match k with
  | _ => ("", "", "", false)
def tyJx8e188 : Nat → FieldType := fun k => match k with
  | _ => .int
abbrev wsJx8e1880 : List Cond := u_ws RJx8e188 TJx8e188 0
theorem nmJx8e188 : ∀ a, a < 0 → ∀ b, b < 0 → a ≠ b → (TJx8e188 a).2.1 ≠ (TJx8e188 b).2.1 := by decide +kernel
theorem tyJx8e188_ok : ∀ k, k < 0 → parseFieldDescriptor (TJx8e188 k).2.2.1 = some (tyJx8e188 k) := by decide +kernel
def RJxab1ab : String := "java/lang/Iterable"
def TJxab1ab : u_T := fun k => match k with
  | _ => ("", "", "", false)
def tyJxab1ab : Nat → FieldType := fun k => match k with
  | _ => .int
abbrev wsJxab1ab0 : List Cond := u_ws RJxab1ab TJxab1ab 0
theorem nmJxab1ab : ∀ a, a < 0 → ∀ b, b < 0 → a ≠ b → (TJxab1ab a).2.1 ≠ (TJxab1ab b).2.1 := by decide +kernel
theorem tyJxab1ab_ok : ∀ k, k < 0 → parseFieldDescriptor (TJxab1ab k).2.2.1 = some (tyJxab1ab k) := by decide +kernel
def RJ9 : String := "java/lang/Math"
def TJ9 : u_T := fun k => match k with
  | _ => ("", "", "", false)
def tyJ9 : Nat → FieldType := fun k => match k with
  | _ => .int
abbrev wsJ90 : List Cond := u_ws RJ9 TJ9 0
theorem nmJ9 : ∀ a, a < 0 → ∀ b, b < 0 → a ≠ b → (TJ9 a).2.1 ≠ (TJ9 b).2.1 := by decide +kernel
theorem tyJ9_ok : ∀ k, k < 0 → parseFieldDescriptor (TJ9 k).2.2.1 = some (tyJ9 k) := by decide +kernel
abbrev cJ9_max_7cf53 : ByteArray := prog_19_method_65_code
def yJ9_max_7cf53 : MethodName := ⟨RJ9, "max", "(II)I"⟩
abbrev cJ9_min_7cf53 : ByteArray := prog_19_method_69_code
def yJ9_min_7cf53 : MethodName := ⟨RJ9, "min", "(II)I"⟩
def RJ0 : String := "java/lang/String"
def TJ0 : u_T := fun k => match k with
  | _ => ("", "", "", false)
def tyJ0 : Nat → FieldType := fun k => match k with
  | _ => .int
abbrev wsJ00 : List Cond := u_ws RJ0 TJ0 0
theorem nmJ0 : ∀ a, a < 0 → ∀ b, b < 0 → a ≠ b → (TJ0 a).2.1 ≠ (TJ0 b).2.1 := by decide +kernel
theorem tyJ0_ok : ∀ k, k < 0 → parseFieldDescriptor (TJ0 k).2.2.1 = some (tyJ0 k) := by decide +kernel
def RJ10 : String := "java/lang/System"
def TJ10 : u_T := fun k => match k with
  | _ => ("", "", "", false)
def tyJ10 : Nat → FieldType := fun k => match k with
  | _ => .int
abbrev wsJ100 : List Cond := u_ws RJ10 TJ10 0
theorem nmJ10 : ∀ a, a < 0 → ∀ b, b < 0 → a ≠ b → (TJ10 a).2.1 ≠ (TJ10 b).2.1 := by decide +kernel
theorem tyJ10_ok : ∀ k, k < 0 → parseFieldDescriptor (TJ10 k).2.2.1 = some (tyJ10 k) := by decide +kernel
def RJxa1e45 : String := "java/util/AbstractCollection"
def TJxa1e45 : u_T := fun k => match k with
  | _ => ("", "", "", false)
def tyJxa1e45 : Nat → FieldType := fun k => match k with
  | _ => .int
abbrev wsJxa1e450 : List Cond := u_ws RJxa1e45 TJxa1e45 0
theorem nmJxa1e45 : ∀ a, a < 0 → ∀ b, b < 0 → a ≠ b → (TJxa1e45 a).2.1 ≠ (TJxa1e45 b).2.1 := by decide +kernel
theorem tyJxa1e45_ok : ∀ k, k < 0 → parseFieldDescriptor (TJxa1e45 k).2.2.1 = some (tyJxa1e45 k) := by decide +kernel
abbrev cJxa1e45_init_da8c8 : ByteArray := prog_24_method_1_code
def yJxa1e45_init_da8c8 : MethodName := ⟨RJxa1e45, "<init>", "()V"⟩
def RJxc12de : String := "java/util/AbstractList"
def TJxc12de : u_T := fun k => match k with
  | _ => ("", "", "", false)
def tyJxc12de : Nat → FieldType := fun k => match k with
  | _ => .int
abbrev wsJxc12de0 : List Cond := u_ws RJxc12de TJxc12de 0
theorem nmJxc12de : ∀ a, a < 0 → ∀ b, b < 0 → a ≠ b → (TJxc12de a).2.1 ≠ (TJxc12de b).2.1 := by decide +kernel
theorem tyJxc12de_ok : ∀ k, k < 0 → parseFieldDescriptor (TJxc12de k).2.2.1 = some (tyJxc12de k) := by decide +kernel
abbrev cJxc12de_init_da8c8 : ByteArray := prog_25_method_1_code
def yJxc12de_init_da8c8 : MethodName := ⟨RJxc12de, "<init>", "()V"⟩
def RJx4a65c : String := "java/util/ArrayList"
def TJx4a65c : u_T := fun k => match k with
  | 0 => ("java/util/AbstractList", "modCount", "I", false)
  | 1 => ("java/util/ArrayList", "elementData", "[Ljava/lang/Object;", false)
  | _ => ("java/util/ArrayList", "size", "I", false)
def tyJx4a65c : Nat → FieldType := fun k => match k with
  | 0 => .int
  | 1 => .array (.object "java/lang/Object")
  | _ => .int
abbrev wsJx4a65c0 : List Cond := u_ws RJx4a65c TJx4a65c 3
theorem nmJx4a65c : ∀ a, a < 3 → ∀ b, b < 3 → a ≠ b → (TJx4a65c a).2.1 ≠ (TJx4a65c b).2.1 := by decide +kernel
theorem tyJx4a65c_ok : ∀ k, k < 3 → parseFieldDescriptor (TJx4a65c k).2.2.1 = some (tyJx4a65c k) := by decide +kernel
abbrev cJx4a65c_init_da8c8 : ByteArray := prog_26_method_2_code
def yJx4a65c_init_da8c8 : MethodName := ⟨RJx4a65c, "<init>", "()V"⟩
abbrev cJx4a65c_grow_92f84 : ByteArray := prog_26_method_6_code
def yJx4a65c_grow_92f84 : MethodName := ⟨RJx4a65c, "grow", "(I)[Ljava/lang/Object;"⟩
abbrev cJx4a65c_grow_d5877 : ByteArray := prog_26_method_7_code
def yJx4a65c_grow_d5877 : MethodName := ⟨RJx4a65c, "grow", "()[Ljava/lang/Object;"⟩
abbrev cJx4a65c_size_8abf5 : ByteArray := prog_26_method_8_code
def yJx4a65c_size_8abf5 : MethodName := ⟨RJx4a65c, "size", "()I"⟩
abbrev cJx4a65c_isEmpty_aae02 : ByteArray := prog_26_method_9_code
def yJx4a65c_isEmpty_aae02 : MethodName := ⟨RJx4a65c, "isEmpty", "()Z"⟩
abbrev cJx4a65c_elementData_915e3 : ByteArray := prog_26_method_18_code
def yJx4a65c_elementData_915e3 : MethodName := ⟨RJx4a65c, "elementData", "(I)Ljava/lang/Object;"⟩
abbrev cJx4a65c_get_915e3 : ByteArray := prog_26_method_20_code
def yJx4a65c_get_915e3 : MethodName := ⟨RJx4a65c, "get", "(I)Ljava/lang/Object;"⟩
abbrev cJx4a65c_add_72be8 : ByteArray := prog_26_method_24_code
def yJx4a65c_add_72be8 : MethodName := ⟨RJx4a65c, "add", "(Ljava/lang/Object;[Ljava/lang/Object;I)V"⟩
abbrev cJx4a65c_add_9ea2d : ByteArray := prog_26_method_25_code
def yJx4a65c_add_9ea2d : MethodName := ⟨RJx4a65c, "add", "(Ljava/lang/Object;)Z"⟩
abbrev cJx4a65c_remove_915e3 : ByteArray := prog_26_method_29_code
def yJx4a65c_remove_915e3 : MethodName := ⟨RJx4a65c, "remove", "(I)Ljava/lang/Object;"⟩
abbrev cJx4a65c_fastRemove_b59b0 : ByteArray := prog_26_method_39_code
def yJx4a65c_fastRemove_b59b0 : MethodName := ⟨RJx4a65c, "fastRemove", "([Ljava/lang/Object;I)V"⟩
abbrev cJx4a65c_clear_da8c8 : ByteArray := prog_26_method_40_code
def yJx4a65c_clear_da8c8 : MethodName := ⟨RJx4a65c, "clear", "()V"⟩
def RJ7 : String := "java/util/Arrays"
def TJ7 : u_T := fun k => match k with
  | _ => ("", "", "", false)
def tyJ7 : Nat → FieldType := fun k => match k with
  | _ => .int
abbrev wsJ70 : List Cond := u_ws RJ7 TJ7 0
theorem nmJ7 : ∀ a, a < 0 → ∀ b, b < 0 → a ≠ b → (TJ7 a).2.1 ≠ (TJ7 b).2.1 := by decide +kernel
theorem tyJ7_ok : ∀ k, k < 0 → parseFieldDescriptor (TJ7 k).2.2.1 = some (tyJ7 k) := by decide +kernel
abbrev cJ7_copyOf_1904c : ByteArray := prog_27_method_119_code
def yJ7_copyOf_1904c : MethodName := ⟨RJ7, "copyOf", "([Ljava/lang/Object;I)[Ljava/lang/Object;"⟩
abbrev cJ7_copyOf_6403c : ByteArray := prog_27_method_120_code
def yJ7_copyOf_6403c : MethodName := ⟨RJ7, "copyOf", "([Ljava/lang/Object;ILjava/lang/Class;)[Ljava/lang/Object;"⟩
def RJx5ef63 : String := "java/util/Collection"
def TJx5ef63 : u_T := fun k => match k with
  | _ => ("", "", "", false)
def tyJx5ef63 : Nat → FieldType := fun k => match k with
  | _ => .int
abbrev wsJx5ef630 : List Cond := u_ws RJx5ef63 TJx5ef63 0
theorem nmJx5ef63 : ∀ a, a < 0 → ∀ b, b < 0 → a ≠ b → (TJx5ef63 a).2.1 ≠ (TJx5ef63 b).2.1 := by decide +kernel
theorem tyJx5ef63_ok : ∀ k, k < 0 → parseFieldDescriptor (TJx5ef63 k).2.2.1 = some (tyJx5ef63 k) := by decide +kernel
def RJxbd725 : String := "java/util/List"
def TJxbd725 : u_T := fun k => match k with
  | _ => ("", "", "", false)
def tyJxbd725 : Nat → FieldType := fun k => match k with
  | _ => .int
abbrev wsJxbd7250 : List Cond := u_ws RJxbd725 TJxbd725 0
theorem nmJxbd725 : ∀ a, a < 0 → ∀ b, b < 0 → a ≠ b → (TJxbd725 a).2.1 ≠ (TJxbd725 b).2.1 := by decide +kernel
theorem tyJxbd725_ok : ∀ k, k < 0 → parseFieldDescriptor (TJxbd725 k).2.2.1 = some (tyJxbd725 k) := by decide +kernel
def RJ15 : String := "java/util/Objects"
def TJ15 : u_T := fun k => match k with
  | _ => ("", "", "", false)
def tyJ15 : Nat → FieldType := fun k => match k with
  | _ => .int
abbrev wsJ150 : List Cond := u_ws RJ15 TJ15 0
theorem nmJ15 : ∀ a, a < 0 → ∀ b, b < 0 → a ≠ b → (TJ15 a).2.1 ≠ (TJ15 b).2.1 := by decide +kernel
theorem tyJ15_ok : ∀ k, k < 0 → parseFieldDescriptor (TJ15 k).2.2.1 = some (tyJ15 k) := by decide +kernel
abbrev cJ15_checkIndex_7cf53 : ByteArray := prog_31_method_17_code
def yJ15_checkIndex_7cf53 : MethodName := ⟨RJ15, "checkIndex", "(II)I"⟩
def RJxf0a74 : String := "java/util/RandomAccess"
def TJxf0a74 : u_T := fun k => match k with
  | _ => ("", "", "", false)
def tyJxf0a74 : Nat → FieldType := fun k => match k with
  | _ => .int
abbrev wsJxf0a740 : List Cond := u_ws RJxf0a74 TJxf0a74 0
theorem nmJxf0a74 : ∀ a, a < 0 → ∀ b, b < 0 → a ≠ b → (TJxf0a74 a).2.1 ≠ (TJxf0a74 b).2.1 := by decide +kernel
theorem tyJxf0a74_ok : ∀ k, k < 0 → parseFieldDescriptor (TJxf0a74 k).2.2.1 = some (tyJxf0a74 k) := by decide +kernel
def RJxa66e6 : String := "java/util/SequencedCollection"
def TJxa66e6 : u_T := fun k => match k with
  | _ => ("", "", "", false)
def tyJxa66e6 : Nat → FieldType := fun k => match k with
  | _ => .int
abbrev wsJxa66e60 : List Cond := u_ws RJxa66e6 TJxa66e6 0
theorem nmJxa66e6 : ∀ a, a < 0 → ∀ b, b < 0 → a ≠ b → (TJxa66e6 a).2.1 ≠ (TJxa66e6 b).2.1 := by decide +kernel
theorem tyJxa66e6_ok : ∀ k, k < 0 → parseFieldDescriptor (TJxa66e6 k).2.2.1 = some (tyJxa66e6 k) := by decide +kernel
def RJ8 : String := "jdk/internal/util/ArraysSupport"
def TJ8 : u_T := fun k => match k with
  | _ => ("", "", "", false)
def tyJ8 : Nat → FieldType := fun k => match k with
  | _ => .int
abbrev wsJ80 : List Cond := u_ws RJ8 TJ8 0
theorem nmJ8 : ∀ a, a < 0 → ∀ b, b < 0 → a ≠ b → (TJ8 a).2.1 ≠ (TJ8 b).2.1 := by decide +kernel
theorem tyJ8_ok : ∀ k, k < 0 → parseFieldDescriptor (TJ8 k).2.2.1 = some (tyJ8 k) := by decide +kernel
abbrev cJ8_newLength_cabcc : ByteArray := prog_34_method_27_code
def yJ8_newLength_cabcc : MethodName := ⟨RJ8, "newLength", "(III)I"⟩
abbrev cJ8_hugeLength_7cf53 : ByteArray := prog_34_method_28_code
def yJ8_hugeLength_7cf53 : MethodName := ⟨RJ8, "hugeLength", "(II)I"⟩
def RJ3 : String := "jdk/internal/util/Preconditions"
def TJ3 : u_T := fun k => match k with
  | _ => ("", "", "", false)
def tyJ3 : Nat → FieldType := fun k => match k with
  | _ => .int
abbrev wsJ30 : List Cond := u_ws RJ3 TJ3 0
theorem nmJ3 : ∀ a, a < 0 → ∀ b, b < 0 → a ≠ b → (TJ3 a).2.1 ≠ (TJ3 b).2.1 := by decide +kernel
theorem tyJ3_ok : ∀ k, k < 0 → parseFieldDescriptor (TJ3 k).2.2.1 = some (tyJ3 k) := by decide +kernel
abbrev cJ3_checkIndex_8e157 : ByteArray := prog_35_method_11_code
def yJ3_checkIndex_8e157 : MethodName := ⟨RJ3, "checkIndex", "(IILjava/util/function/BiFunction;)I"⟩
def RL : String := "TokenHouseLaw"
abbrev cL_node : ByteArray := method_3_code
def yL_node : MethodName := ⟨RL, "node", "(LTokenHouse;II[J)I"⟩
abbrev cL_run : ByteArray := method_4_code
def yL_run : MethodName := ⟨RL, "run", "(LTokenHouse;IJ[J)I"⟩
abbrev cL_result : ByteArray := method_5_code
def yL_result : MethodName := ⟨RL, "result", "(LTokenHouse;II[J)I"⟩
abbrev cL_context : ByteArray := method_6_code
def yL_context : MethodName := ⟨RL, "context", "(LTokenHouse;II[J)I"⟩
abbrev cL_cell : ByteArray := method_7_code
def yL_cell : MethodName := ⟨RL, "cell", "(LTokenHouse;III[J)I"⟩
abbrev cL_law : ByteArray := code
def yL_law : MethodName := ⟨RL, "law", "([I)Z"⟩
abbrev vwCl : List vw_C := [(RJx4a65c, TJx4a65c, 3), (RX0, TX0, 3), (RX1, TX1, 2), (RX2, TX2, 4), (RX3, TX3, 4), (RX4, TX4, 5), (RX5, TX5, 3), (RX6, TX6, 8), (RX7, TX7, 2), (RX8, TX8, 2), (RX9, TX9, 13), (RX10, TX10, 41)]
end
section
/-- the words that every contract here takes: the good ones of the tables -/
def TW : List Cond := lw_tbl.filter goodWord
theorem TW_in : ∀ w ∈ TW, w ∈ lw_tbl := fun w h => (List.mem_filter.mp h).1
theorem TW_good : GoodIn TW TW := fun w h => ⟨h, good_of_word (List.mem_filter.mp h).2⟩
theorem tw_in {w : Cond} (i : Nat) (h : lw_tbl[i]? = some w) (g : goodWord w = true) : w ∈ TW := List.mem_filter.mpr ⟨List.mem_of_getElem? h, g⟩
theorem tw_0 : Jvm.Cond.selects "TokenHouse" ({ cls := "TokenHouse", name := "nodeAt", desc := "(I)LTokenHouse$Node;" } : Jvm.MethodName) ({ cls := "TokenHouse", name := "nodeAt", desc := "(I)LTokenHouse$Node;" } : Jvm.MethodName) ∈ TW := tw_in 0 (by decide +kernel) (by decide +kernel)
theorem tw_1 : Jvm.Cond.selects "java/util/ArrayList" ({ cls := "java/util/ArrayList", name := "add", desc := "(Ljava/lang/Object;[Ljava/lang/Object;I)V" } : Jvm.MethodName) ({ cls := "java/util/ArrayList", name := "add", desc := "(Ljava/lang/Object;[Ljava/lang/Object;I)V" } : Jvm.MethodName) ∈ TW := tw_in 1 (by decide +kernel) (by decide +kernel)
theorem tw_2 : Jvm.Cond.selects "java/util/ArrayList" ({ cls := "java/util/ArrayList", name := "grow", desc := "()[Ljava/lang/Object;" } : Jvm.MethodName) ({ cls := "java/util/ArrayList", name := "grow", desc := "()[Ljava/lang/Object;" } : Jvm.MethodName) ∈ TW := tw_in 2 (by decide +kernel) (by decide +kernel)
theorem tw_3 : Jvm.Cond.selects "java/util/ArrayList" ({ cls := "java/util/ArrayList", name := "grow", desc := "(I)[Ljava/lang/Object;" } : Jvm.MethodName) ({ cls := "java/util/ArrayList", name := "grow", desc := "(I)[Ljava/lang/Object;" } : Jvm.MethodName) ∈ TW := tw_in 3 (by decide +kernel) (by decide +kernel)
theorem tw_4 : Jvm.Cond.selects "TokenHouse" ({ cls := "TokenHouse", name := "come", desc := "(LTokenHouse$Node;ILTokenHouse$Value;I)V" } : Jvm.MethodName) ({ cls := "TokenHouse", name := "come", desc := "(LTokenHouse$Node;ILTokenHouse$Value;I)V" } : Jvm.MethodName) ∈ TW := tw_in 4 (by decide +kernel) (by decide +kernel)
theorem tw_5 : Jvm.Cond.selects "java/util/ArrayList" ({ cls := "java/util/ArrayList", name := "fastRemove", desc := "([Ljava/lang/Object;I)V" } : Jvm.MethodName) ({ cls := "java/util/ArrayList", name := "fastRemove", desc := "([Ljava/lang/Object;I)V" } : Jvm.MethodName) ∈ TW := tw_in 5 (by decide +kernel) (by decide +kernel)
theorem tw_6 : Jvm.Cond.selects "java/lang/Throwable" ({ cls := "java/lang/Throwable", name := "fillInStackTrace", desc := "(I)Ljava/lang/Throwable;" } : Jvm.MethodName) ({ cls := "java/lang/Throwable", name := "fillInStackTrace", desc := "(I)Ljava/lang/Throwable;" } : Jvm.MethodName) ∈ TW := tw_in 6 (by decide +kernel) (by decide +kernel)
theorem tw_7 : Jvm.Cond.selects "TokenHouse" ({ cls := "TokenHouse", name := "go", desc := "(LTokenHouse$Frame;)V" } : Jvm.MethodName) ({ cls := "TokenHouse", name := "go", desc := "(LTokenHouse$Frame;)V" } : Jvm.MethodName) ∈ TW := tw_in 7 (by decide +kernel) (by decide +kernel)
theorem tw_8 : Jvm.Cond.selects "TokenHouse" ({ cls := "TokenHouse", name := "give", desc := "(LTokenHouse$Node;LTokenHouse$Value;I)V" } : Jvm.MethodName) ({ cls := "TokenHouse", name := "give", desc := "(LTokenHouse$Node;LTokenHouse$Value;I)V" } : Jvm.MethodName) ∈ TW := tw_in 8 (by decide +kernel) (by decide +kernel)
theorem tw_9 : Jvm.Cond.selects "TokenHouse" ({ cls := "TokenHouse", name := "choose", desc := "(LTokenHouse$Node;ILTokenHouse$Value;LTokenHouse$Value;)V" } : Jvm.MethodName) ({ cls := "TokenHouse", name := "choose", desc := "(LTokenHouse$Node;ILTokenHouse$Value;LTokenHouse$Value;)V" } : Jvm.MethodName) ∈ TW := tw_in 9 (by decide +kernel) (by decide +kernel)
theorem tw_10 : Jvm.Cond.selects "TokenHouse" ({ cls := "TokenHouse", name := "giveOnSide", desc := "(LTokenHouse$Node;ILTokenHouse$Value;I)V" } : Jvm.MethodName) ({ cls := "TokenHouse", name := "giveOnSide", desc := "(LTokenHouse$Node;ILTokenHouse$Value;I)V" } : Jvm.MethodName) ∈ TW := tw_in 10 (by decide +kernel) (by decide +kernel)
theorem tw_11 : Jvm.Cond.selects "TokenHouse" ({ cls := "TokenHouse", name := "move", desc := "(LTokenHouse$Node;ILTokenHouse$Value;)V" } : Jvm.MethodName) ({ cls := "TokenHouse", name := "move", desc := "(LTokenHouse$Node;ILTokenHouse$Value;)V" } : Jvm.MethodName) ∈ TW := tw_in 11 (by decide +kernel) (by decide +kernel)
theorem tw_12 : Jvm.Cond.selects "TokenHouse" ({ cls := "TokenHouse", name := "contextBehind", desc := "(LTokenHouse$Node;I)I" } : Jvm.MethodName) ({ cls := "TokenHouse", name := "contextBehind", desc := "(LTokenHouse$Node;I)I" } : Jvm.MethodName) ∈ TW := tw_in 12 (by decide +kernel) (by decide +kernel)
theorem tw_13 : Jvm.Cond.selects "TokenHouse" ({ cls := "TokenHouse", name := "enterCall", desc := "(LTokenHouse$Node;ILTokenHouse$Value;)V" } : Jvm.MethodName) ({ cls := "TokenHouse", name := "enterCall", desc := "(LTokenHouse$Node;ILTokenHouse$Value;)V" } : Jvm.MethodName) ∈ TW := tw_in 13 (by decide +kernel) (by decide +kernel)
theorem tw_14 : Jvm.Cond.selects "TokenHouse" ({ cls := "TokenHouse", name := "leaveCall", desc := "(ILTokenHouse$Value;)V" } : Jvm.MethodName) ({ cls := "TokenHouse", name := "leaveCall", desc := "(ILTokenHouse$Value;)V" } : Jvm.MethodName) ∈ TW := tw_in 14 (by decide +kernel) (by decide +kernel)
theorem tw_15 : Jvm.Cond.selects "TokenHouse" ({ cls := "TokenHouse", name := "makeArray", desc := "(LTokenHouse$Node;IJ)V" } : Jvm.MethodName) ({ cls := "TokenHouse", name := "makeArray", desc := "(LTokenHouse$Node;IJ)V" } : Jvm.MethodName) ∈ TW := tw_in 15 (by decide +kernel) (by decide +kernel)
theorem tw_16 : Jvm.Cond.selects "TokenHouse" ({ cls := "TokenHouse", name := "fetch", desc := "(LTokenHouse$Node;ILTokenHouse$Cell;)V" } : Jvm.MethodName) ({ cls := "TokenHouse", name := "fetch", desc := "(LTokenHouse$Node;ILTokenHouse$Cell;)V" } : Jvm.MethodName) ∈ TW := tw_in 16 (by decide +kernel) (by decide +kernel)
theorem tw_17 : Jvm.Cond.selects "TokenHouse" ({ cls := "TokenHouse", name := "store", desc := "(LTokenHouse$Node;ILTokenHouse$Cell;LTokenHouse$Value;)V" } : Jvm.MethodName) ({ cls := "TokenHouse", name := "store", desc := "(LTokenHouse$Node;ILTokenHouse$Cell;LTokenHouse$Value;)V" } : Jvm.MethodName) ∈ TW := tw_in 17 (by decide +kernel) (by decide +kernel)
theorem tw_18 : Jvm.Cond.selects "TokenHouseModel" ({ cls := "TokenHouseModel", name := "raise", desc := "(I)I" } : Jvm.MethodName) ({ cls := "TokenHouseModel", name := "raise", desc := "(I)I" } : Jvm.MethodName) ∈ TW := tw_in 18 (by decide +kernel) (by decide +kernel)
theorem tw_19 : Jvm.Cond.selects "TokenHouseModel" ({ cls := "TokenHouseModel", name := "isNode", desc := "(I)Z" } : Jvm.MethodName) ({ cls := "TokenHouseModel", name := "isNode", desc := "(I)Z" } : Jvm.MethodName) ∈ TW := tw_in 19 (by decide +kernel) (by decide +kernel)
theorem tw_20 : Jvm.Cond.selects "TokenHouseModel" ({ cls := "TokenHouseModel", name := "comes", desc := "(IIIIJ)V" } : Jvm.MethodName) ({ cls := "TokenHouseModel", name := "comes", desc := "(IIIIJ)V" } : Jvm.MethodName) ∈ TW := tw_in 20 (by decide +kernel) (by decide +kernel)
theorem tw_21 : Jvm.Cond.selects "TokenHouseModel" ({ cls := "TokenHouseModel", name := "waits", desc := "(III)I" } : Jvm.MethodName) ({ cls := "TokenHouseModel", name := "waits", desc := "(III)I" } : Jvm.MethodName) ∈ TW := tw_in 21 (by decide +kernel) (by decide +kernel)
theorem tw_22 : Jvm.Cond.selects "TokenHouseModel" ({ cls := "TokenHouseModel", name := "gather", desc := "(II)V" } : Jvm.MethodName) ({ cls := "TokenHouseModel", name := "gather", desc := "(II)V" } : Jvm.MethodName) ∈ TW := tw_in 22 (by decide +kernel) (by decide +kernel)
theorem tw_23 : Jvm.Cond.selects "TokenHouseModel" ({ cls := "TokenHouseModel", name := "go", desc := "(I)V" } : Jvm.MethodName) ({ cls := "TokenHouseModel", name := "go", desc := "(I)V" } : Jvm.MethodName) ∈ TW := tw_in 23 (by decide +kernel) (by decide +kernel)
theorem tw_24 : Jvm.Cond.selects "TokenHouseModel" ({ cls := "TokenHouseModel", name := "take", desc := "(I)V" } : Jvm.MethodName) ({ cls := "TokenHouseModel", name := "take", desc := "(I)V" } : Jvm.MethodName) ∈ TW := tw_in 24 (by decide +kernel) (by decide +kernel)
theorem tw_25 : Jvm.Cond.selects "TokenHouseModel" ({ cls := "TokenHouseModel", name := "send", desc := "(IIIIJ)V" } : Jvm.MethodName) ({ cls := "TokenHouseModel", name := "send", desc := "(IIIIJ)V" } : Jvm.MethodName) ∈ TW := tw_in 25 (by decide +kernel) (by decide +kernel)
theorem tw_26 : Jvm.Cond.selects "TokenHouseModel" ({ cls := "TokenHouseModel", name := "reckon", desc := "(II)V" } : Jvm.MethodName) ({ cls := "TokenHouseModel", name := "reckon", desc := "(II)V" } : Jvm.MethodName) ∈ TW := tw_in 26 (by decide +kernel) (by decide +kernel)
theorem tw_27 : Jvm.Cond.selects "TokenHouseModel" ({ cls := "TokenHouseModel", name := "errorOf", desc := "(I)I" } : Jvm.MethodName) ({ cls := "TokenHouseModel", name := "errorOf", desc := "(I)I" } : Jvm.MethodName) ∈ TW := tw_in 27 (by decide +kernel) (by decide +kernel)
theorem tw_28 : Jvm.Cond.selects "TokenHouseModel" ({ cls := "TokenHouseModel", name := "sendError", desc := "(III)V" } : Jvm.MethodName) ({ cls := "TokenHouseModel", name := "sendError", desc := "(III)V" } : Jvm.MethodName) ∈ TW := tw_in 28 (by decide +kernel) (by decide +kernel)
theorem tw_29 : Jvm.Cond.selects "TokenHouseModel" ({ cls := "TokenHouseModel", name := "part", desc := "(II)V" } : Jvm.MethodName) ({ cls := "TokenHouseModel", name := "part", desc := "(II)V" } : Jvm.MethodName) ∈ TW := tw_in 29 (by decide +kernel) (by decide +kernel)
theorem tw_30 : Jvm.Cond.selects "TokenHouseModel" ({ cls := "TokenHouseModel", name := "turn", desc := "(II)V" } : Jvm.MethodName) ({ cls := "TokenHouseModel", name := "turn", desc := "(II)V" } : Jvm.MethodName) ∈ TW := tw_in 30 (by decide +kernel) (by decide +kernel)
theorem tw_31 : Jvm.Cond.selects "TokenHouseModel" ({ cls := "TokenHouseModel", name := "contextOf", desc := "(III)I" } : Jvm.MethodName) ({ cls := "TokenHouseModel", name := "contextOf", desc := "(III)I" } : Jvm.MethodName) ∈ TW := tw_in 31 (by decide +kernel) (by decide +kernel)
theorem tw_32 : Jvm.Cond.selects "TokenHouseModel" ({ cls := "TokenHouseModel", name := "callOrBack", desc := "(II)V" } : Jvm.MethodName) ({ cls := "TokenHouseModel", name := "callOrBack", desc := "(II)V" } : Jvm.MethodName) ∈ TW := tw_in 32 (by decide +kernel) (by decide +kernel)
theorem tw_33 : Jvm.Cond.selects "TokenHouseModel" ({ cls := "TokenHouseModel", name := "make", desc := "(II)V" } : Jvm.MethodName) ({ cls := "TokenHouseModel", name := "make", desc := "(II)V" } : Jvm.MethodName) ∈ TW := tw_in 33 (by decide +kernel) (by decide +kernel)
theorem tw_34 : Jvm.Cond.selects "TokenHouseModel" ({ cls := "TokenHouseModel", name := "keepResult", desc := "(I)V" } : Jvm.MethodName) ({ cls := "TokenHouseModel", name := "keepResult", desc := "(I)V" } : Jvm.MethodName) ∈ TW := tw_in 34 (by decide +kernel) (by decide +kernel)
theorem tw_35 : Jvm.Cond.selects "TokenHouseModel" ({ cls := "TokenHouseModel", name := "atCell", desc := "(II)V" } : Jvm.MethodName) ({ cls := "TokenHouseModel", name := "atCell", desc := "(II)V" } : Jvm.MethodName) ∈ TW := tw_in 35 (by decide +kernel) (by decide +kernel)
theorem tw_36 : Jvm.Cond.selects "TokenHouseModel" ({ cls := "TokenHouseModel", name := "store", desc := "(III)V" } : Jvm.MethodName) ({ cls := "TokenHouseModel", name := "store", desc := "(III)V" } : Jvm.MethodName) ∈ TW := tw_in 36 (by decide +kernel) (by decide +kernel)
theorem tw_37 : Jvm.Cond.selects "TokenHouseModel" ({ cls := "TokenHouseModel", name := "serve", desc := "(I)V" } : Jvm.MethodName) ({ cls := "TokenHouseModel", name := "serve", desc := "(I)V" } : Jvm.MethodName) ∈ TW := tw_in 37 (by decide +kernel) (by decide +kernel)
theorem tw_38 : Jvm.Cond.initialized "TokenHouseLaw" ∈ TW := tw_in 38 (by decide +kernel) (by decide +kernel)
theorem tw_39 : Jvm.Cond.initialized "TokenHouse" ∈ TW := tw_in 39 (by decide +kernel) (by decide +kernel)
theorem tw_40 : Jvm.Cond.initialized "TokenHouse$Value" ∈ TW := tw_in 40 (by decide +kernel) (by decide +kernel)
theorem tw_41 : Jvm.Cond.initialized "java/util/AbstractCollection" ∈ TW := tw_in 41 (by decide +kernel) (by decide +kernel)
theorem tw_42 : Jvm.Cond.initialized "java/util/AbstractList" ∈ TW := tw_in 42 (by decide +kernel) (by decide +kernel)
theorem tw_43 : Jvm.Cond.initialized "java/util/ArrayList" ∈ TW := tw_in 43 (by decide +kernel) (by decide +kernel)
theorem tw_44 : Jvm.Cond.initialized "TokenHouse$Frames" ∈ TW := tw_in 44 (by decide +kernel) (by decide +kernel)
theorem tw_45 : Jvm.Cond.initialized "TokenHouse$Contexts" ∈ TW := tw_in 45 (by decide +kernel) (by decide +kernel)
theorem tw_46 : Jvm.Cond.initialized "TokenHouse$Cells" ∈ TW := tw_in 46 (by decide +kernel) (by decide +kernel)
theorem tw_47 : Jvm.Cond.initialized "TokenHouseModel" ∈ TW := tw_in 47 (by decide +kernel) (by decide +kernel)
theorem tw_48 : Jvm.Cond.initialized "java/lang/Throwable" ∈ TW := tw_in 48 (by decide +kernel) (by decide +kernel)
theorem tw_49 : Jvm.Cond.initialized "java/lang/Exception" ∈ TW := tw_in 49 (by decide +kernel) (by decide +kernel)
theorem tw_50 : Jvm.Cond.initialized "java/lang/RuntimeException" ∈ TW := tw_in 50 (by decide +kernel) (by decide +kernel)
theorem tw_51 : Jvm.Cond.initialized "java/lang/IllegalArgumentException" ∈ TW := tw_in 51 (by decide +kernel) (by decide +kernel)
theorem tw_52 : Jvm.Cond.initialized "java/lang/IllegalStateException" ∈ TW := tw_in 52 (by decide +kernel) (by decide +kernel)
theorem tw_53 : Jvm.Cond.initialized "TokenHouse$Node" ∈ TW := tw_in 53 (by decide +kernel) (by decide +kernel)
theorem tw_54 : Jvm.Cond.initialized "jdk/internal/util/ArraysSupport" ∈ TW := tw_in 54 (by decide +kernel) (by decide +kernel)
theorem tw_55 : Jvm.Cond.initialized "java/lang/Math" ∈ TW := tw_in 55 (by decide +kernel) (by decide +kernel)
theorem tw_56 : Jvm.Cond.initialized "java/util/Arrays" ∈ TW := tw_in 56 (by decide +kernel) (by decide +kernel)
theorem tw_57 : Jvm.Cond.initialized "java/lang/System" ∈ TW := tw_in 57 (by decide +kernel) (by decide +kernel)
theorem tw_58 : Jvm.Cond.initialized "java/util/Objects" ∈ TW := tw_in 58 (by decide +kernel) (by decide +kernel)
theorem tw_59 : Jvm.Cond.initialized "jdk/internal/util/Preconditions" ∈ TW := tw_in 59 (by decide +kernel) (by decide +kernel)
theorem tw_60 : Jvm.Cond.initialized "TokenHouse$Arc" ∈ TW := tw_in 60 (by decide +kernel) (by decide +kernel)
theorem tw_61 : Jvm.Cond.initialized "TokenHouse$Frame" ∈ TW := tw_in 61 (by decide +kernel) (by decide +kernel)
theorem tw_62 : Jvm.Cond.initialized "TokenHouse$Cell" ∈ TW := tw_in 62 (by decide +kernel) (by decide +kernel)
theorem tw_63 : Jvm.Cond.initialized "TokenHouse$Result" ∈ TW := tw_in 63 (by decide +kernel) (by decide +kernel)
theorem tw_64 : Jvm.Cond.initialized "java/util/NoSuchElementException" ∈ TW := tw_in 64 (by decide +kernel) (by decide +kernel)
theorem tw_65 : Jvm.Cond.classLink "TokenHouseLaw" (8 : Nat) "TokenHouse" ∈ TW := tw_in 65 (by decide +kernel) (by decide +kernel)
theorem tw_66 : Jvm.Cond.instantiable "TokenHouse" (13 : Nat) ∈ TW := tw_in 66 (by decide +kernel) (by decide +kernel)
theorem tw_67 : Jvm.Cond.methodLink "TokenHouseLaw" (34 : Nat) ({ cls := "TokenHouse", name := "<init>", desc := "()V" } : Jvm.MethodName) ∈ TW := tw_in 67 (by decide +kernel) (by decide +kernel)
theorem tw_68 : Jvm.Cond.instanceMethod ({ cls := "TokenHouse", name := "<init>", desc := "()V" } : Jvm.MethodName) ∈ TW := tw_in 68 (by decide +kernel) (by decide +kernel)
set_option maxRecDepth 100000 in
theorem tw_69 : Jvm.Cond.code ({ cls := "TokenHouse", name := "<init>", desc := "()V" } : Jvm.MethodName) prog_1_method_1_code (1 : Nat) (Option.none : Option Jvm.ClassFile.FieldType) ∈ TW := tw_in 69 rfl rfl
theorem tw_70 : Jvm.Cond.methodLink "TokenHouse" (1 : Nat) ({ cls := "java/lang/Object", name := "<init>", desc := "()V" } : Jvm.MethodName) ∈ TW := tw_in 70 (by decide +kernel) (by decide +kernel)
theorem tw_71 : Jvm.Cond.instanceMethod ({ cls := "java/lang/Object", name := "<init>", desc := "()V" } : Jvm.MethodName) ∈ TW := tw_in 71 (by decide +kernel) (by decide +kernel)
set_option maxRecDepth 100000 in
theorem tw_72 : Jvm.Cond.code ({ cls := "java/lang/Object", name := "<init>", desc := "()V" } : Jvm.MethodName) object_method_1_code (1 : Nat) (Option.none : Option Jvm.ClassFile.FieldType) ∈ TW := tw_in 72 rfl rfl
theorem tw_73 : Jvm.Cond.classLink "TokenHouse" (7 : Nat) "TokenHouse$Value" ∈ TW := tw_in 73 (by decide +kernel) (by decide +kernel)
theorem tw_74 : Jvm.Cond.instantiable "TokenHouse$Value" (2 : Nat) ∈ TW := tw_in 74 (by decide +kernel) (by decide +kernel)
theorem tw_75 : Jvm.Cond.methodLink "TokenHouse" (11 : Nat) ({ cls := "TokenHouse$Value", name := "<init>", desc := "(IJ)V" } : Jvm.MethodName) ∈ TW := tw_in 75 (by decide +kernel) (by decide +kernel)
theorem tw_76 : Jvm.Cond.instanceMethod ({ cls := "TokenHouse$Value", name := "<init>", desc := "(IJ)V" } : Jvm.MethodName) ∈ TW := tw_in 76 (by decide +kernel) (by decide +kernel)
set_option maxRecDepth 100000 in
theorem tw_77 : Jvm.Cond.code ({ cls := "TokenHouse$Value", name := "<init>", desc := "(IJ)V" } : Jvm.MethodName) prog_10_method_1_code (4 : Nat) (Option.none : Option Jvm.ClassFile.FieldType) ∈ TW := tw_in 77 rfl rfl
theorem tw_78 : Jvm.Cond.methodLink "TokenHouse$Value" (1 : Nat) ({ cls := "java/lang/Object", name := "<init>", desc := "()V" } : Jvm.MethodName) ∈ TW := tw_in 78 (by decide +kernel) (by decide +kernel)
theorem tw_79 : Jvm.Cond.fieldLink "TokenHouse$Value" (7 : Nat) "TokenHouse$Value" "kind" "I" ∈ TW := tw_in 79 (by decide +kernel) (by decide +kernel)
theorem tw_80 : Jvm.Cond.fieldLink "TokenHouse$Cell" (22 : Nat) "TokenHouse$Value" "kind" "I" ∈ TW := tw_in 80 (by decide +kernel) (by decide +kernel)
theorem tw_81 : Jvm.Cond.fieldLink "TokenHouse$Frame" (29 : Nat) "TokenHouse$Value" "kind" "I" ∈ TW := tw_in 81 (by decide +kernel) (by decide +kernel)
theorem tw_82 : Jvm.Cond.fieldLink "TokenHouse" (181 : Nat) "TokenHouse$Value" "kind" "I" ∈ TW := tw_in 82 (by decide +kernel) (by decide +kernel)
theorem tw_83 : Jvm.Cond.fieldLink "TokenHouse$Value" (13 : Nat) "TokenHouse$Value" "number" "J" ∈ TW := tw_in 83 (by decide +kernel) (by decide +kernel)
theorem tw_84 : Jvm.Cond.fieldLink "TokenHouse" (184 : Nat) "TokenHouse$Value" "number" "J" ∈ TW := tw_in 84 (by decide +kernel) (by decide +kernel)
theorem tw_90 : Jvm.Cond.classLink "TokenHouse" (18 : Nat) "java/util/ArrayList" ∈ TW := tw_in 90 (by decide +kernel) (by decide +kernel)
theorem tw_91 : Jvm.Cond.instantiable "java/util/ArrayList" (3 : Nat) ∈ TW := tw_in 91 (by decide +kernel) (by decide +kernel)
theorem tw_92 : Jvm.Cond.methodLink "TokenHouse" (20 : Nat) ({ cls := "java/util/ArrayList", name := "<init>", desc := "()V" } : Jvm.MethodName) ∈ TW := tw_in 92 (by decide +kernel) (by decide +kernel)
theorem tw_93 : Jvm.Cond.instanceMethod ({ cls := "java/util/ArrayList", name := "<init>", desc := "()V" } : Jvm.MethodName) ∈ TW := tw_in 93 (by decide +kernel) (by decide +kernel)
set_option maxRecDepth 100000 in
theorem tw_94 : Jvm.Cond.code ({ cls := "java/util/ArrayList", name := "<init>", desc := "()V" } : Jvm.MethodName) prog_26_method_2_code (1 : Nat) (Option.none : Option Jvm.ClassFile.FieldType) ∈ TW := tw_in 94 rfl rfl
theorem tw_95 : Jvm.Cond.methodLink "java/util/ArrayList" (1 : Nat) ({ cls := "java/util/AbstractList", name := "<init>", desc := "()V" } : Jvm.MethodName) ∈ TW := tw_in 95 (by decide +kernel) (by decide +kernel)
theorem tw_96 : Jvm.Cond.instanceMethod ({ cls := "java/util/AbstractList", name := "<init>", desc := "()V" } : Jvm.MethodName) ∈ TW := tw_in 96 (by decide +kernel) (by decide +kernel)
set_option maxRecDepth 100000 in
theorem tw_97 : Jvm.Cond.code ({ cls := "java/util/AbstractList", name := "<init>", desc := "()V" } : Jvm.MethodName) prog_25_method_1_code (1 : Nat) (Option.none : Option Jvm.ClassFile.FieldType) ∈ TW := tw_in 97 rfl rfl
theorem tw_98 : Jvm.Cond.methodLink "java/util/AbstractList" (1 : Nat) ({ cls := "java/util/AbstractCollection", name := "<init>", desc := "()V" } : Jvm.MethodName) ∈ TW := tw_in 98 (by decide +kernel) (by decide +kernel)
theorem tw_99 : Jvm.Cond.instanceMethod ({ cls := "java/util/AbstractCollection", name := "<init>", desc := "()V" } : Jvm.MethodName) ∈ TW := tw_in 99 (by decide +kernel) (by decide +kernel)
set_option maxRecDepth 100000 in
theorem tw_100 : Jvm.Cond.code ({ cls := "java/util/AbstractCollection", name := "<init>", desc := "()V" } : Jvm.MethodName) prog_24_method_1_code (1 : Nat) (Option.none : Option Jvm.ClassFile.FieldType) ∈ TW := tw_in 100 rfl rfl
theorem tw_101 : Jvm.Cond.methodLink "java/util/AbstractCollection" (1 : Nat) ({ cls := "java/lang/Object", name := "<init>", desc := "()V" } : Jvm.MethodName) ∈ TW := tw_in 101 (by decide +kernel) (by decide +kernel)
theorem tw_102 : Jvm.Cond.fieldLink "java/util/ArrayList" (39 : Nat) "java/util/ArrayList" "DEFAULTCAPACITY_EMPTY_ELEMENTDATA" "[Ljava/lang/Object;" ∈ TW := tw_in 102 (by decide +kernel) (by decide +kernel)
theorem tw_104 : Jvm.Cond.fieldLink "java/util/ArrayList" (9 : Nat) "java/util/ArrayList" "elementData" "[Ljava/lang/Object;" ∈ TW := tw_in 104 (by decide +kernel) (by decide +kernel)
theorem tw_105 : Jvm.Cond.fieldLink "java/util/ArrayList" (48 : Nat) "java/util/ArrayList" "size" "I" ∈ TW := tw_in 105 (by decide +kernel) (by decide +kernel)
theorem tw_106 : Jvm.Cond.fieldLink "java/util/AbstractList" (7 : Nat) "java/util/AbstractList" "modCount" "I" ∈ TW := tw_in 106 (by decide +kernel) (by decide +kernel)
theorem tw_107 : Jvm.Cond.fieldLink "java/util/ArrayList" (63 : Nat) "java/util/ArrayList" "modCount" "I" ∈ TW := tw_in 107 (by decide +kernel) (by decide +kernel)
theorem tw_116 : Jvm.Cond.classLink "TokenHouse" (25 : Nat) "TokenHouse$Frames" ∈ TW := tw_in 116 (by decide +kernel) (by decide +kernel)
theorem tw_117 : Jvm.Cond.instantiable "TokenHouse$Frames" (3 : Nat) ∈ TW := tw_in 117 (by decide +kernel) (by decide +kernel)
theorem tw_118 : Jvm.Cond.methodLink "TokenHouse" (27 : Nat) ({ cls := "TokenHouse$Frames", name := "<init>", desc := "(LTokenHouse$Value;)V" } : Jvm.MethodName) ∈ TW := tw_in 118 (by decide +kernel) (by decide +kernel)
theorem tw_119 : Jvm.Cond.instanceMethod ({ cls := "TokenHouse$Frames", name := "<init>", desc := "(LTokenHouse$Value;)V" } : Jvm.MethodName) ∈ TW := tw_in 119 (by decide +kernel) (by decide +kernel)
set_option maxRecDepth 100000 in
theorem tw_120 : Jvm.Cond.code ({ cls := "TokenHouse$Frames", name := "<init>", desc := "(LTokenHouse$Value;)V" } : Jvm.MethodName) prog_7_method_1_code (2 : Nat) (Option.none : Option Jvm.ClassFile.FieldType) ∈ TW := tw_in 120 rfl rfl
theorem tw_121 : Jvm.Cond.methodLink "TokenHouse$Frames" (1 : Nat) ({ cls := "java/lang/Object", name := "<init>", desc := "()V" } : Jvm.MethodName) ∈ TW := tw_in 121 (by decide +kernel) (by decide +kernel)
theorem tw_122 : Jvm.Cond.classLink "TokenHouse$Frames" (13 : Nat) "java/util/ArrayList" ∈ TW := tw_in 122 (by decide +kernel) (by decide +kernel)
theorem tw_123 : Jvm.Cond.methodLink "TokenHouse$Frames" (15 : Nat) ({ cls := "java/util/ArrayList", name := "<init>", desc := "()V" } : Jvm.MethodName) ∈ TW := tw_in 123 (by decide +kernel) (by decide +kernel)
theorem tw_124 : Jvm.Cond.fieldLink "TokenHouse$Frames" (7 : Nat) "TokenHouse$Frames" "nothing" "LTokenHouse$Value;" ∈ TW := tw_in 124 (by decide +kernel) (by decide +kernel)
theorem tw_125 : Jvm.Cond.fieldLink "TokenHouse$Frames" (16 : Nat) "TokenHouse$Frames" "made" "Ljava/util/ArrayList;" ∈ TW := tw_in 125 (by decide +kernel) (by decide +kernel)
theorem tw_126 : Jvm.Cond.fieldLink "TokenHouse$Frames" (20 : Nat) "TokenHouse$Frames" "free" "Ljava/util/ArrayList;" ∈ TW := tw_in 126 (by decide +kernel) (by decide +kernel)
theorem tw_134 : Jvm.Cond.classLink "TokenHouse" (37 : Nat) "TokenHouse$Contexts" ∈ TW := tw_in 134 (by decide +kernel) (by decide +kernel)
theorem tw_135 : Jvm.Cond.instantiable "TokenHouse$Contexts" (4 : Nat) ∈ TW := tw_in 135 (by decide +kernel) (by decide +kernel)
theorem tw_136 : Jvm.Cond.methodLink "TokenHouse" (39 : Nat) ({ cls := "TokenHouse$Contexts", name := "<init>", desc := "()V" } : Jvm.MethodName) ∈ TW := tw_in 136 (by decide +kernel) (by decide +kernel)
theorem tw_137 : Jvm.Cond.instanceMethod ({ cls := "TokenHouse$Contexts", name := "<init>", desc := "()V" } : Jvm.MethodName) ∈ TW := tw_in 137 (by decide +kernel) (by decide +kernel)
set_option maxRecDepth 100000 in
theorem tw_138 : Jvm.Cond.code ({ cls := "TokenHouse$Contexts", name := "<init>", desc := "()V" } : Jvm.MethodName) prog_5_method_1_code (1 : Nat) (Option.none : Option Jvm.ClassFile.FieldType) ∈ TW := tw_in 138 rfl rfl
theorem tw_139 : Jvm.Cond.methodLink "TokenHouse$Contexts" (3 : Nat) ({ cls := "java/lang/Object", name := "<init>", desc := "()V" } : Jvm.MethodName) ∈ TW := tw_in 139 (by decide +kernel) (by decide +kernel)
theorem tw_140 : Jvm.Cond.fieldLink "TokenHouse$Contexts" (9 : Nat) "TokenHouse$Contexts" "outside" "[I" ∈ TW := tw_in 140 (by decide +kernel) (by decide +kernel)
theorem tw_141 : Jvm.Cond.fieldLink "TokenHouse" (193 : Nat) "TokenHouse$Contexts" "outside" "[I" ∈ TW := tw_in 141 (by decide +kernel) (by decide +kernel)
theorem tw_142 : Jvm.Cond.fieldLink "TokenHouse$Contexts" (15 : Nat) "TokenHouse$Contexts" "site" "[I" ∈ TW := tw_in 142 (by decide +kernel) (by decide +kernel)
theorem tw_143 : Jvm.Cond.fieldLink "TokenHouse" (196 : Nat) "TokenHouse$Contexts" "site" "[I" ∈ TW := tw_in 143 (by decide +kernel) (by decide +kernel)
theorem tw_144 : Jvm.Cond.fieldLink "TokenHouse$Contexts" (18 : Nat) "TokenHouse$Contexts" "round" "[I" ∈ TW := tw_in 144 (by decide +kernel) (by decide +kernel)
theorem tw_145 : Jvm.Cond.fieldLink "TokenHouse" (199 : Nat) "TokenHouse$Contexts" "round" "[I" ∈ TW := tw_in 145 (by decide +kernel) (by decide +kernel)
theorem tw_146 : Jvm.Cond.fieldLink "TokenHouse$Contexts" (21 : Nat) "TokenHouse$Contexts" "count" "I" ∈ TW := tw_in 146 (by decide +kernel) (by decide +kernel)
theorem tw_147 : Jvm.Cond.fieldLink "TokenHouse" (221 : Nat) "TokenHouse$Contexts" "count" "I" ∈ TW := tw_in 147 (by decide +kernel) (by decide +kernel)
theorem tw_157 : Jvm.Cond.arrayClass Jvm.ClassFile.FieldType.int ∈ TW := tw_in 157 (by decide +kernel) (by decide +kernel)
theorem tw_158 : Jvm.Cond.classLink "TokenHouse" (44 : Nat) "TokenHouse$Cells" ∈ TW := tw_in 158 (by decide +kernel) (by decide +kernel)
theorem tw_159 : Jvm.Cond.instantiable "TokenHouse$Cells" (4 : Nat) ∈ TW := tw_in 159 (by decide +kernel) (by decide +kernel)
theorem tw_160 : Jvm.Cond.methodLink "TokenHouse" (46 : Nat) ({ cls := "TokenHouse$Cells", name := "<init>", desc := "(LTokenHouse$Value;)V" } : Jvm.MethodName) ∈ TW := tw_in 160 (by decide +kernel) (by decide +kernel)
theorem tw_161 : Jvm.Cond.instanceMethod ({ cls := "TokenHouse$Cells", name := "<init>", desc := "(LTokenHouse$Value;)V" } : Jvm.MethodName) ∈ TW := tw_in 161 (by decide +kernel) (by decide +kernel)
set_option maxRecDepth 100000 in
theorem tw_162 : Jvm.Cond.code ({ cls := "TokenHouse$Cells", name := "<init>", desc := "(LTokenHouse$Value;)V" } : Jvm.MethodName) prog_4_method_1_code (2 : Nat) (Option.none : Option Jvm.ClassFile.FieldType) ∈ TW := tw_in 162 rfl rfl
theorem tw_163 : Jvm.Cond.methodLink "TokenHouse$Cells" (3 : Nat) ({ cls := "java/lang/Object", name := "<init>", desc := "()V" } : Jvm.MethodName) ∈ TW := tw_in 163 (by decide +kernel) (by decide +kernel)
theorem tw_164 : Jvm.Cond.classLink "TokenHouse$Cells" (15 : Nat) "TokenHouse$Cell" ∈ TW := tw_in 164 (by decide +kernel) (by decide +kernel)
theorem tw_166 : Jvm.Cond.fieldLink "TokenHouse$Cells" (9 : Nat) "TokenHouse$Cells" "nothing" "LTokenHouse$Value;" ∈ TW := tw_in 166 (by decide +kernel) (by decide +kernel)
theorem tw_167 : Jvm.Cond.fieldLink "TokenHouse$Cells" (17 : Nat) "TokenHouse$Cells" "row" "[LTokenHouse$Cell;" ∈ TW := tw_in 167 (by decide +kernel) (by decide +kernel)
theorem tw_168 : Jvm.Cond.fieldLink "TokenHouse$Cells" (21 : Nat) "TokenHouse$Cells" "lengths" "[I" ∈ TW := tw_in 168 (by decide +kernel) (by decide +kernel)
theorem tw_169 : Jvm.Cond.fieldLink "TokenHouse$Cells" (25 : Nat) "TokenHouse$Cells" "arrays" "I" ∈ TW := tw_in 169 (by decide +kernel) (by decide +kernel)
theorem tw_170 : Jvm.Cond.fieldLink "TokenHouse" (224 : Nat) "TokenHouse$Cells" "arrays" "I" ∈ TW := tw_in 170 (by decide +kernel) (by decide +kernel)
theorem tw_180 : Jvm.Cond.fieldLink "TokenHouse" (14 : Nat) "TokenHouse" "nothing" "LTokenHouse$Value;" ∈ TW := tw_in 180 (by decide +kernel) (by decide +kernel)
theorem tw_181 : Jvm.Cond.fieldLink "TokenHouse" (21 : Nat) "TokenHouse" "nodes" "Ljava/util/ArrayList;" ∈ TW := tw_in 181 (by decide +kernel) (by decide +kernel)
theorem tw_182 : Jvm.Cond.fieldLink "TokenHouse" (30 : Nat) "TokenHouse" "frames" "LTokenHouse$Frames;" ∈ TW := tw_in 182 (by decide +kernel) (by decide +kernel)
theorem tw_183 : Jvm.Cond.fieldLink "TokenHouse" (34 : Nat) "TokenHouse" "readyFrames" "Ljava/util/ArrayList;" ∈ TW := tw_in 183 (by decide +kernel) (by decide +kernel)
theorem tw_184 : Jvm.Cond.fieldLink "TokenHouse" (40 : Nat) "TokenHouse" "contexts" "LTokenHouse$Contexts;" ∈ TW := tw_in 184 (by decide +kernel) (by decide +kernel)
theorem tw_185 : Jvm.Cond.fieldLink "TokenHouse" (47 : Nat) "TokenHouse" "cells" "LTokenHouse$Cells;" ∈ TW := tw_in 185 (by decide +kernel) (by decide +kernel)
theorem tw_186 : Jvm.Cond.fieldLink "TokenHouse" (51 : Nat) "TokenHouse" "results" "Ljava/util/ArrayList;" ∈ TW := tw_in 186 (by decide +kernel) (by decide +kernel)
theorem tw_187 : Jvm.Cond.fieldLink "TokenHouse" (155 : Nat) "TokenHouse" "waitingTokens" "I" ∈ TW := tw_in 187 (by decide +kernel) (by decide +kernel)
theorem tw_188 : Jvm.Cond.fieldLink "TokenHouse" (158 : Nat) "TokenHouse" "keptFetches" "I" ∈ TW := tw_in 188 (by decide +kernel) (by decide +kernel)
theorem tw_189 : Jvm.Cond.fieldLink "TokenHouse" (108 : Nat) "TokenHouse" "trap" "I" ∈ TW := tw_in 189 (by decide +kernel) (by decide +kernel)
theorem tw_190 : Jvm.Cond.fieldLink "TokenHouse" (127 : Nat) "TokenHouse" "wentSinceClear" "I" ∈ TW := tw_in 190 (by decide +kernel) (by decide +kernel)
theorem tw_191 : Jvm.Cond.fieldLink "TokenHouse" (118 : Nat) "TokenHouse" "wentInAll" "I" ∈ TW := tw_in 191 (by decide +kernel) (by decide +kernel)
theorem tw_192 : Jvm.Cond.fieldLink "TokenHouse" (69 : Nat) "TokenHouse" "begun" "Z" ∈ TW := tw_in 192 (by decide +kernel) (by decide +kernel)
theorem tw_220 : Jvm.Cond.methodLink "TokenHouseLaw" (48 : Nat) ({ cls := "TokenHouse", name := "arc", desc := "(IIII)Z" } : Jvm.MethodName) ∈ TW := tw_in 220 (by decide +kernel) (by decide +kernel)
theorem tw_221 : Jvm.Cond.instanceMethod ({ cls := "TokenHouse", name := "arc", desc := "(IIII)Z" } : Jvm.MethodName) ∈ TW := tw_in 221 (by decide +kernel) (by decide +kernel)
theorem tw_222 : Jvm.Cond.selects "TokenHouse" ({ cls := "TokenHouse", name := "arc", desc := "(IIII)Z" } : Jvm.MethodName) ({ cls := "TokenHouse", name := "arc", desc := "(IIII)Z" } : Jvm.MethodName) ∈ TW := tw_in 222 (by decide +kernel) (by decide +kernel)
set_option maxRecDepth 100000 in
theorem tw_223 : Jvm.Cond.code ({ cls := "TokenHouse", name := "arc", desc := "(IIII)Z" } : Jvm.MethodName) prog_1_method_3_code (7 : Nat) (Option.some Jvm.ClassFile.FieldType.boolean) ∈ TW := tw_in 223 rfl rfl
theorem tw_224 : Jvm.Cond.methodLink "TokenHouse" (93 : Nat) ({ cls := "TokenHouse", name := "nodeAt", desc := "(I)LTokenHouse$Node;" } : Jvm.MethodName) ∈ TW := tw_in 224 (by decide +kernel) (by decide +kernel)
theorem tw_226 : Jvm.Cond.instanceMethod ({ cls := "TokenHouse", name := "nodeAt", desc := "(I)LTokenHouse$Node;" } : Jvm.MethodName) ∈ TW := tw_in 226 (by decide +kernel) (by decide +kernel)
set_option maxRecDepth 100000 in
theorem tw_227 : Jvm.Cond.code ({ cls := "TokenHouse", name := "nodeAt", desc := "(I)LTokenHouse$Node;" } : Jvm.MethodName) prog_1_method_13_code (2 : Nat) (Option.some (Jvm.ClassFile.FieldType.object "TokenHouse$Node")) ∈ TW := tw_in 227 rfl rfl
theorem tw_228 : Jvm.Cond.methodLink "TokenHouse" (65 : Nat) ({ cls := "java/util/ArrayList", name := "size", desc := "()I" } : Jvm.MethodName) ∈ TW := tw_in 228 (by decide +kernel) (by decide +kernel)
theorem tw_229 : Jvm.Cond.instanceMethod ({ cls := "java/util/ArrayList", name := "size", desc := "()I" } : Jvm.MethodName) ∈ TW := tw_in 229 (by decide +kernel) (by decide +kernel)
theorem tw_230 : Jvm.Cond.selects "java/util/ArrayList" ({ cls := "java/util/ArrayList", name := "size", desc := "()I" } : Jvm.MethodName) ({ cls := "java/util/ArrayList", name := "size", desc := "()I" } : Jvm.MethodName) ∈ TW := tw_in 230 (by decide +kernel) (by decide +kernel)
set_option maxRecDepth 100000 in
theorem tw_231 : Jvm.Cond.code ({ cls := "java/util/ArrayList", name := "size", desc := "()I" } : Jvm.MethodName) prog_26_method_8_code (1 : Nat) (Option.some Jvm.ClassFile.FieldType.int) ∈ TW := tw_in 231 rfl rfl
theorem tw_232 : Jvm.Cond.methodLink "TokenHouse" (143 : Nat) ({ cls := "java/util/ArrayList", name := "get", desc := "(I)Ljava/lang/Object;" } : Jvm.MethodName) ∈ TW := tw_in 232 (by decide +kernel) (by decide +kernel)
theorem tw_233 : Jvm.Cond.instanceMethod ({ cls := "java/util/ArrayList", name := "get", desc := "(I)Ljava/lang/Object;" } : Jvm.MethodName) ∈ TW := tw_in 233 (by decide +kernel) (by decide +kernel)
theorem tw_234 : Jvm.Cond.selects "java/util/ArrayList" ({ cls := "java/util/ArrayList", name := "get", desc := "(I)Ljava/lang/Object;" } : Jvm.MethodName) ({ cls := "java/util/ArrayList", name := "get", desc := "(I)Ljava/lang/Object;" } : Jvm.MethodName) ∈ TW := tw_in 234 (by decide +kernel) (by decide +kernel)
set_option maxRecDepth 100000 in
theorem tw_235 : Jvm.Cond.code ({ cls := "java/util/ArrayList", name := "get", desc := "(I)Ljava/lang/Object;" } : Jvm.MethodName) prog_26_method_20_code (2 : Nat) (Option.some (Jvm.ClassFile.FieldType.object "java/lang/Object")) ∈ TW := tw_in 235 rfl rfl
theorem tw_236 : Jvm.Cond.methodLink "java/util/ArrayList" (118 : Nat) ({ cls := "java/util/Objects", name := "checkIndex", desc := "(II)I" } : Jvm.MethodName) ∈ TW := tw_in 236 (by decide +kernel) (by decide +kernel)
theorem tw_237 : Jvm.Cond.static ({ cls := "java/util/Objects", name := "checkIndex", desc := "(II)I" } : Jvm.MethodName) ∈ TW := tw_in 237 (by decide +kernel) (by decide +kernel)
set_option maxRecDepth 100000 in
theorem tw_238 : Jvm.Cond.code ({ cls := "java/util/Objects", name := "checkIndex", desc := "(II)I" } : Jvm.MethodName) prog_31_method_17_code (2 : Nat) (Option.some Jvm.ClassFile.FieldType.int) ∈ TW := tw_in 238 rfl rfl
theorem tw_239 : Jvm.Cond.methodLink "java/util/Objects" (105 : Nat) ({ cls := "jdk/internal/util/Preconditions", name := "checkIndex", desc := "(IILjava/util/function/BiFunction;)I" } : Jvm.MethodName) ∈ TW := tw_in 239 (by decide +kernel) (by decide +kernel)
theorem tw_240 : Jvm.Cond.static ({ cls := "jdk/internal/util/Preconditions", name := "checkIndex", desc := "(IILjava/util/function/BiFunction;)I" } : Jvm.MethodName) ∈ TW := tw_in 240 (by decide +kernel) (by decide +kernel)
set_option maxRecDepth 100000 in
theorem tw_241 : Jvm.Cond.code ({ cls := "jdk/internal/util/Preconditions", name := "checkIndex", desc := "(IILjava/util/function/BiFunction;)I" } : Jvm.MethodName) prog_35_method_11_code (3 : Nat) (Option.some Jvm.ClassFile.FieldType.int) ∈ TW := tw_in 241 rfl rfl
theorem tw_242 : Jvm.Cond.methodLink "java/util/ArrayList" (123 : Nat) ({ cls := "java/util/ArrayList", name := "elementData", desc := "(I)Ljava/lang/Object;" } : Jvm.MethodName) ∈ TW := tw_in 242 (by decide +kernel) (by decide +kernel)
theorem tw_243 : Jvm.Cond.instanceMethod ({ cls := "java/util/ArrayList", name := "elementData", desc := "(I)Ljava/lang/Object;" } : Jvm.MethodName) ∈ TW := tw_in 243 (by decide +kernel) (by decide +kernel)
theorem tw_244 : Jvm.Cond.selects "java/util/ArrayList" ({ cls := "java/util/ArrayList", name := "elementData", desc := "(I)Ljava/lang/Object;" } : Jvm.MethodName) ({ cls := "java/util/ArrayList", name := "elementData", desc := "(I)Ljava/lang/Object;" } : Jvm.MethodName) ∈ TW := tw_in 244 (by decide +kernel) (by decide +kernel)
set_option maxRecDepth 100000 in
theorem tw_245 : Jvm.Cond.code ({ cls := "java/util/ArrayList", name := "elementData", desc := "(I)Ljava/lang/Object;" } : Jvm.MethodName) prog_26_method_18_code (2 : Nat) (Option.some (Jvm.ClassFile.FieldType.object "java/lang/Object")) ∈ TW := tw_in 245 rfl rfl
theorem tw_246 : Jvm.Cond.classLink "TokenHouse" (78 : Nat) "TokenHouse$Node" ∈ TW := tw_in 246 (by decide +kernel) (by decide +kernel)
theorem tw_247 : Jvm.Cond.methodLink "TokenHouse" (97 : Nat) ({ cls := "TokenHouse$Node", name := "hasSide", desc := "(I)Z" } : Jvm.MethodName) ∈ TW := tw_in 247 (by decide +kernel) (by decide +kernel)
theorem tw_248 : Jvm.Cond.instanceMethod ({ cls := "TokenHouse$Node", name := "hasSide", desc := "(I)Z" } : Jvm.MethodName) ∈ TW := tw_in 248 (by decide +kernel) (by decide +kernel)
theorem tw_249 : Jvm.Cond.selects "TokenHouse$Node" ({ cls := "TokenHouse$Node", name := "hasSide", desc := "(I)Z" } : Jvm.MethodName) ({ cls := "TokenHouse$Node", name := "hasSide", desc := "(I)Z" } : Jvm.MethodName) ∈ TW := tw_in 249 (by decide +kernel) (by decide +kernel)
set_option maxRecDepth 100000 in
theorem tw_250 : Jvm.Cond.code ({ cls := "TokenHouse$Node", name := "hasSide", desc := "(I)Z" } : Jvm.MethodName) prog_8_method_2_code (2 : Nat) (Option.some Jvm.ClassFile.FieldType.boolean) ∈ TW := tw_in 250 rfl rfl
theorem tw_251 : Jvm.Cond.methodLink "TokenHouse" (101 : Nat) ({ cls := "TokenHouse$Node", name := "hasPort", desc := "(I)Z" } : Jvm.MethodName) ∈ TW := tw_in 251 (by decide +kernel) (by decide +kernel)
theorem tw_252 : Jvm.Cond.instanceMethod ({ cls := "TokenHouse$Node", name := "hasPort", desc := "(I)Z" } : Jvm.MethodName) ∈ TW := tw_in 252 (by decide +kernel) (by decide +kernel)
theorem tw_253 : Jvm.Cond.selects "TokenHouse$Node" ({ cls := "TokenHouse$Node", name := "hasPort", desc := "(I)Z" } : Jvm.MethodName) ({ cls := "TokenHouse$Node", name := "hasPort", desc := "(I)Z" } : Jvm.MethodName) ∈ TW := tw_in 253 (by decide +kernel) (by decide +kernel)
set_option maxRecDepth 100000 in
theorem tw_254 : Jvm.Cond.code ({ cls := "TokenHouse$Node", name := "hasPort", desc := "(I)Z" } : Jvm.MethodName) prog_8_method_3_code (2 : Nat) (Option.some Jvm.ClassFile.FieldType.boolean) ∈ TW := tw_in 254 rfl rfl
theorem tw_255 : Jvm.Cond.methodLink "TokenHouse" (104 : Nat) ({ cls := "TokenHouse$Node", name := "addArc", desc := "(ILTokenHouse$Node;I)Z" } : Jvm.MethodName) ∈ TW := tw_in 255 (by decide +kernel) (by decide +kernel)
theorem tw_256 : Jvm.Cond.instanceMethod ({ cls := "TokenHouse$Node", name := "addArc", desc := "(ILTokenHouse$Node;I)Z" } : Jvm.MethodName) ∈ TW := tw_in 256 (by decide +kernel) (by decide +kernel)
theorem tw_257 : Jvm.Cond.selects "TokenHouse$Node" ({ cls := "TokenHouse$Node", name := "addArc", desc := "(ILTokenHouse$Node;I)Z" } : Jvm.MethodName) ({ cls := "TokenHouse$Node", name := "addArc", desc := "(ILTokenHouse$Node;I)Z" } : Jvm.MethodName) ∈ TW := tw_in 257 (by decide +kernel) (by decide +kernel)
set_option maxRecDepth 100000 in
theorem tw_258 : Jvm.Cond.code ({ cls := "TokenHouse$Node", name := "addArc", desc := "(ILTokenHouse$Node;I)Z" } : Jvm.MethodName) prog_8_method_4_code (4 : Nat) (Option.some Jvm.ClassFile.FieldType.boolean) ∈ TW := tw_in 258 rfl rfl
theorem tw_259 : Jvm.Cond.methodLink "TokenHouse$Node" (40 : Nat) ({ cls := "java/util/ArrayList", name := "size", desc := "()I" } : Jvm.MethodName) ∈ TW := tw_in 259 (by decide +kernel) (by decide +kernel)
theorem tw_260 : Jvm.Cond.classLink "TokenHouse$Node" (44 : Nat) "TokenHouse$Arc" ∈ TW := tw_in 260 (by decide +kernel) (by decide +kernel)
theorem tw_261 : Jvm.Cond.instantiable "TokenHouse$Arc" (3 : Nat) ∈ TW := tw_in 261 (by decide +kernel) (by decide +kernel)
theorem tw_262 : Jvm.Cond.methodLink "TokenHouse$Node" (46 : Nat) ({ cls := "TokenHouse$Arc", name := "<init>", desc := "(ILTokenHouse$Node;I)V" } : Jvm.MethodName) ∈ TW := tw_in 262 (by decide +kernel) (by decide +kernel)
theorem tw_263 : Jvm.Cond.instanceMethod ({ cls := "TokenHouse$Arc", name := "<init>", desc := "(ILTokenHouse$Node;I)V" } : Jvm.MethodName) ∈ TW := tw_in 263 (by decide +kernel) (by decide +kernel)
set_option maxRecDepth 100000 in
theorem tw_264 : Jvm.Cond.code ({ cls := "TokenHouse$Arc", name := "<init>", desc := "(ILTokenHouse$Node;I)V" } : Jvm.MethodName) prog_2_method_1_code (4 : Nat) (Option.none : Option Jvm.ClassFile.FieldType) ∈ TW := tw_in 264 rfl rfl
theorem tw_265 : Jvm.Cond.methodLink "TokenHouse$Arc" (1 : Nat) ({ cls := "java/lang/Object", name := "<init>", desc := "()V" } : Jvm.MethodName) ∈ TW := tw_in 265 (by decide +kernel) (by decide +kernel)
theorem tw_266 : Jvm.Cond.fieldLink "TokenHouse$Arc" (7 : Nat) "TokenHouse$Arc" "side" "I" ∈ TW := tw_in 266 (by decide +kernel) (by decide +kernel)
theorem tw_267 : Jvm.Cond.fieldLink "TokenHouse" (256 : Nat) "TokenHouse$Arc" "side" "I" ∈ TW := tw_in 267 (by decide +kernel) (by decide +kernel)
theorem tw_268 : Jvm.Cond.fieldLink "TokenHouse$Arc" (13 : Nat) "TokenHouse$Arc" "to" "LTokenHouse$Node;" ∈ TW := tw_in 268 (by decide +kernel) (by decide +kernel)
theorem tw_269 : Jvm.Cond.fieldLink "TokenHouse" (250 : Nat) "TokenHouse$Arc" "to" "LTokenHouse$Node;" ∈ TW := tw_in 269 (by decide +kernel) (by decide +kernel)
theorem tw_270 : Jvm.Cond.fieldLink "TokenHouse$Arc" (17 : Nat) "TokenHouse$Arc" "port" "I" ∈ TW := tw_in 270 (by decide +kernel) (by decide +kernel)
theorem tw_271 : Jvm.Cond.fieldLink "TokenHouse" (253 : Nat) "TokenHouse$Arc" "port" "I" ∈ TW := tw_in 271 (by decide +kernel) (by decide +kernel)
theorem tw_279 : Jvm.Cond.methodLink "TokenHouse$Node" (49 : Nat) ({ cls := "java/util/ArrayList", name := "add", desc := "(Ljava/lang/Object;)Z" } : Jvm.MethodName) ∈ TW := tw_in 279 (by decide +kernel) (by decide +kernel)
theorem tw_280 : Jvm.Cond.instanceMethod ({ cls := "java/util/ArrayList", name := "add", desc := "(Ljava/lang/Object;)Z" } : Jvm.MethodName) ∈ TW := tw_in 280 (by decide +kernel) (by decide +kernel)
theorem tw_281 : Jvm.Cond.selects "java/util/ArrayList" ({ cls := "java/util/ArrayList", name := "add", desc := "(Ljava/lang/Object;)Z" } : Jvm.MethodName) ({ cls := "java/util/ArrayList", name := "add", desc := "(Ljava/lang/Object;)Z" } : Jvm.MethodName) ∈ TW := tw_in 281 (by decide +kernel) (by decide +kernel)
set_option maxRecDepth 100000 in
theorem tw_282 : Jvm.Cond.code ({ cls := "java/util/ArrayList", name := "add", desc := "(Ljava/lang/Object;)Z" } : Jvm.MethodName) prog_26_method_25_code (2 : Nat) (Option.some Jvm.ClassFile.FieldType.boolean) ∈ TW := tw_in 282 rfl rfl
theorem tw_283 : Jvm.Cond.methodLink "java/util/ArrayList" (131 : Nat) ({ cls := "java/util/ArrayList", name := "add", desc := "(Ljava/lang/Object;[Ljava/lang/Object;I)V" } : Jvm.MethodName) ∈ TW := tw_in 283 (by decide +kernel) (by decide +kernel)
theorem tw_285 : Jvm.Cond.instanceMethod ({ cls := "java/util/ArrayList", name := "add", desc := "(Ljava/lang/Object;[Ljava/lang/Object;I)V" } : Jvm.MethodName) ∈ TW := tw_in 285 (by decide +kernel) (by decide +kernel)
set_option maxRecDepth 100000 in
theorem tw_286 : Jvm.Cond.code ({ cls := "java/util/ArrayList", name := "add", desc := "(Ljava/lang/Object;[Ljava/lang/Object;I)V" } : Jvm.MethodName) prog_26_method_24_code (4 : Nat) (Option.none : Option Jvm.ClassFile.FieldType) ∈ TW := tw_in 286 rfl rfl
theorem tw_287 : Jvm.Cond.methodLink "java/util/ArrayList" (129 : Nat) ({ cls := "java/util/ArrayList", name := "grow", desc := "()[Ljava/lang/Object;" } : Jvm.MethodName) ∈ TW := tw_in 287 (by decide +kernel) (by decide +kernel)
theorem tw_289 : Jvm.Cond.instanceMethod ({ cls := "java/util/ArrayList", name := "grow", desc := "()[Ljava/lang/Object;" } : Jvm.MethodName) ∈ TW := tw_in 289 (by decide +kernel) (by decide +kernel)
set_option maxRecDepth 100000 in
theorem tw_290 : Jvm.Cond.code ({ cls := "java/util/ArrayList", name := "grow", desc := "()[Ljava/lang/Object;" } : Jvm.MethodName) prog_26_method_7_code (1 : Nat) (Option.some (Jvm.ClassFile.FieldType.array (Jvm.ClassFile.FieldType.object "java/lang/Object"))) ∈ TW := tw_in 290 rfl rfl
theorem tw_291 : Jvm.Cond.methodLink "java/util/ArrayList" (69 : Nat) ({ cls := "java/util/ArrayList", name := "grow", desc := "(I)[Ljava/lang/Object;" } : Jvm.MethodName) ∈ TW := tw_in 291 (by decide +kernel) (by decide +kernel)
theorem tw_293 : Jvm.Cond.instanceMethod ({ cls := "java/util/ArrayList", name := "grow", desc := "(I)[Ljava/lang/Object;" } : Jvm.MethodName) ∈ TW := tw_in 293 (by decide +kernel) (by decide +kernel)
set_option maxRecDepth 100000 in
theorem tw_294 : Jvm.Cond.code ({ cls := "java/util/ArrayList", name := "grow", desc := "(I)[Ljava/lang/Object;" } : Jvm.MethodName) prog_26_method_6_code (4 : Nat) (Option.some (Jvm.ClassFile.FieldType.array (Jvm.ClassFile.FieldType.object "java/lang/Object"))) ∈ TW := tw_in 294 rfl rfl
theorem tw_295 : Jvm.Cond.methodLink "java/util/ArrayList" (73 : Nat) ({ cls := "jdk/internal/util/ArraysSupport", name := "newLength", desc := "(III)I" } : Jvm.MethodName) ∈ TW := tw_in 295 (by decide +kernel) (by decide +kernel)
theorem tw_296 : Jvm.Cond.static ({ cls := "jdk/internal/util/ArraysSupport", name := "newLength", desc := "(III)I" } : Jvm.MethodName) ∈ TW := tw_in 296 (by decide +kernel) (by decide +kernel)
set_option maxRecDepth 100000 in
theorem tw_297 : Jvm.Cond.code ({ cls := "jdk/internal/util/ArraysSupport", name := "newLength", desc := "(III)I" } : Jvm.MethodName) prog_34_method_27_code (4 : Nat) (Option.some Jvm.ClassFile.FieldType.int) ∈ TW := tw_in 297 rfl rfl
theorem tw_298 : Jvm.Cond.methodLink "jdk/internal/util/ArraysSupport" (194 : Nat) ({ cls := "java/lang/Math", name := "max", desc := "(II)I" } : Jvm.MethodName) ∈ TW := tw_in 298 (by decide +kernel) (by decide +kernel)
theorem tw_299 : Jvm.Cond.static ({ cls := "java/lang/Math", name := "max", desc := "(II)I" } : Jvm.MethodName) ∈ TW := tw_in 299 (by decide +kernel) (by decide +kernel)
set_option maxRecDepth 100000 in
theorem tw_300 : Jvm.Cond.code ({ cls := "java/lang/Math", name := "max", desc := "(II)I" } : Jvm.MethodName) prog_19_method_65_code (2 : Nat) (Option.some Jvm.ClassFile.FieldType.int) ∈ TW := tw_in 300 rfl rfl
theorem tw_301 : Jvm.Cond.constant "jdk/internal/util/ArraysSupport" (200 : Nat) (2147483639 : Int32) ∈ TW := tw_in 301 (by decide +kernel) (by decide +kernel)
theorem tw_302 : Jvm.Cond.methodLink "jdk/internal/util/ArraysSupport" (201 : Nat) ({ cls := "jdk/internal/util/ArraysSupport", name := "hugeLength", desc := "(II)I" } : Jvm.MethodName) ∈ TW := tw_in 302 (by decide +kernel) (by decide +kernel)
theorem tw_303 : Jvm.Cond.static ({ cls := "jdk/internal/util/ArraysSupport", name := "hugeLength", desc := "(II)I" } : Jvm.MethodName) ∈ TW := tw_in 303 (by decide +kernel) (by decide +kernel)
set_option maxRecDepth 100000 in
theorem tw_304 : Jvm.Cond.code ({ cls := "jdk/internal/util/ArraysSupport", name := "hugeLength", desc := "(II)I" } : Jvm.MethodName) prog_34_method_28_code (3 : Nat) (Option.some Jvm.ClassFile.FieldType.int) ∈ TW := tw_in 304 rfl rfl
theorem tw_305 : Jvm.Cond.methodLink "java/util/ArrayList" (66 : Nat) ({ cls := "java/util/Arrays", name := "copyOf", desc := "([Ljava/lang/Object;I)[Ljava/lang/Object;" } : Jvm.MethodName) ∈ TW := tw_in 305 (by decide +kernel) (by decide +kernel)
theorem tw_306 : Jvm.Cond.static ({ cls := "java/util/Arrays", name := "copyOf", desc := "([Ljava/lang/Object;I)[Ljava/lang/Object;" } : Jvm.MethodName) ∈ TW := tw_in 306 (by decide +kernel) (by decide +kernel)
set_option maxRecDepth 100000 in
theorem tw_307 : Jvm.Cond.code ({ cls := "java/util/Arrays", name := "copyOf", desc := "([Ljava/lang/Object;I)[Ljava/lang/Object;" } : Jvm.MethodName) prog_27_method_119_code (2 : Nat) (Option.some (Jvm.ClassFile.FieldType.array (Jvm.ClassFile.FieldType.object "java/lang/Object"))) ∈ TW := tw_in 307 rfl rfl
theorem tw_308 : Jvm.Cond.methodLink "java/util/Arrays" (86 : Nat) ({ cls := "java/lang/Object", name := "getClass", desc := "()Ljava/lang/Class;" } : Jvm.MethodName) ∈ TW := tw_in 308 (by decide +kernel) (by decide +kernel)
theorem tw_309 : Jvm.Cond.instanceMethod ({ cls := "java/lang/Object", name := "getClass", desc := "()Ljava/lang/Class;" } : Jvm.MethodName) ∈ TW := tw_in 309 (by decide +kernel) (by decide +kernel)
theorem tw_311 : Jvm.Cond.selects "TokenHouse" ({ cls := "java/lang/Object", name := "getClass", desc := "()Ljava/lang/Class;" } : Jvm.MethodName) ({ cls := "java/lang/Object", name := "getClass", desc := "()Ljava/lang/Class;" } : Jvm.MethodName) ∈ TW := tw_in 311 (by decide +kernel) (by decide +kernel)
theorem tw_312 : Jvm.Cond.selects "TokenHouse$Arc" ({ cls := "java/lang/Object", name := "getClass", desc := "()Ljava/lang/Class;" } : Jvm.MethodName) ({ cls := "java/lang/Object", name := "getClass", desc := "()Ljava/lang/Class;" } : Jvm.MethodName) ∈ TW := tw_in 312 (by decide +kernel) (by decide +kernel)
theorem tw_313 : Jvm.Cond.selects "TokenHouse$Cell" ({ cls := "java/lang/Object", name := "getClass", desc := "()Ljava/lang/Class;" } : Jvm.MethodName) ({ cls := "java/lang/Object", name := "getClass", desc := "()Ljava/lang/Class;" } : Jvm.MethodName) ∈ TW := tw_in 313 (by decide +kernel) (by decide +kernel)
theorem tw_314 : Jvm.Cond.selects "TokenHouse$Cells" ({ cls := "java/lang/Object", name := "getClass", desc := "()Ljava/lang/Class;" } : Jvm.MethodName) ({ cls := "java/lang/Object", name := "getClass", desc := "()Ljava/lang/Class;" } : Jvm.MethodName) ∈ TW := tw_in 314 (by decide +kernel) (by decide +kernel)
theorem tw_315 : Jvm.Cond.selects "TokenHouse$Contexts" ({ cls := "java/lang/Object", name := "getClass", desc := "()Ljava/lang/Class;" } : Jvm.MethodName) ({ cls := "java/lang/Object", name := "getClass", desc := "()Ljava/lang/Class;" } : Jvm.MethodName) ∈ TW := tw_in 315 (by decide +kernel) (by decide +kernel)
theorem tw_316 : Jvm.Cond.selects "TokenHouse$Frame" ({ cls := "java/lang/Object", name := "getClass", desc := "()Ljava/lang/Class;" } : Jvm.MethodName) ({ cls := "java/lang/Object", name := "getClass", desc := "()Ljava/lang/Class;" } : Jvm.MethodName) ∈ TW := tw_in 316 (by decide +kernel) (by decide +kernel)
theorem tw_317 : Jvm.Cond.selects "TokenHouse$Frames" ({ cls := "java/lang/Object", name := "getClass", desc := "()Ljava/lang/Class;" } : Jvm.MethodName) ({ cls := "java/lang/Object", name := "getClass", desc := "()Ljava/lang/Class;" } : Jvm.MethodName) ∈ TW := tw_in 317 (by decide +kernel) (by decide +kernel)
theorem tw_318 : Jvm.Cond.selects "TokenHouse$Node" ({ cls := "java/lang/Object", name := "getClass", desc := "()Ljava/lang/Class;" } : Jvm.MethodName) ({ cls := "java/lang/Object", name := "getClass", desc := "()Ljava/lang/Class;" } : Jvm.MethodName) ∈ TW := tw_in 318 (by decide +kernel) (by decide +kernel)
theorem tw_319 : Jvm.Cond.selects "TokenHouse$Result" ({ cls := "java/lang/Object", name := "getClass", desc := "()Ljava/lang/Class;" } : Jvm.MethodName) ({ cls := "java/lang/Object", name := "getClass", desc := "()Ljava/lang/Class;" } : Jvm.MethodName) ∈ TW := tw_in 319 (by decide +kernel) (by decide +kernel)
theorem tw_320 : Jvm.Cond.selects "TokenHouse$Value" ({ cls := "java/lang/Object", name := "getClass", desc := "()Ljava/lang/Class;" } : Jvm.MethodName) ({ cls := "java/lang/Object", name := "getClass", desc := "()Ljava/lang/Class;" } : Jvm.MethodName) ∈ TW := tw_in 320 (by decide +kernel) (by decide +kernel)
theorem tw_321 : Jvm.Cond.selects "TokenHouseModel" ({ cls := "java/lang/Object", name := "getClass", desc := "()Ljava/lang/Class;" } : Jvm.MethodName) ({ cls := "java/lang/Object", name := "getClass", desc := "()Ljava/lang/Class;" } : Jvm.MethodName) ∈ TW := tw_in 321 (by decide +kernel) (by decide +kernel)
theorem tw_322 : Jvm.Cond.selects "java/lang/IllegalArgumentException" ({ cls := "java/lang/Object", name := "getClass", desc := "()Ljava/lang/Class;" } : Jvm.MethodName) ({ cls := "java/lang/Object", name := "getClass", desc := "()Ljava/lang/Class;" } : Jvm.MethodName) ∈ TW := tw_in 322 (by decide +kernel) (by decide +kernel)
theorem tw_323 : Jvm.Cond.selects "java/lang/IllegalStateException" ({ cls := "java/lang/Object", name := "getClass", desc := "()Ljava/lang/Class;" } : Jvm.MethodName) ({ cls := "java/lang/Object", name := "getClass", desc := "()Ljava/lang/Class;" } : Jvm.MethodName) ∈ TW := tw_in 323 (by decide +kernel) (by decide +kernel)
theorem tw_324 : Jvm.Cond.selects "java/util/ArrayList" ({ cls := "java/lang/Object", name := "getClass", desc := "()Ljava/lang/Class;" } : Jvm.MethodName) ({ cls := "java/lang/Object", name := "getClass", desc := "()Ljava/lang/Class;" } : Jvm.MethodName) ∈ TW := tw_in 324 (by decide +kernel) (by decide +kernel)
theorem tw_325 : Jvm.Cond.selects "java/util/NoSuchElementException" ({ cls := "java/lang/Object", name := "getClass", desc := "()Ljava/lang/Class;" } : Jvm.MethodName) ({ cls := "java/lang/Object", name := "getClass", desc := "()Ljava/lang/Class;" } : Jvm.MethodName) ∈ TW := tw_in 325 (by decide +kernel) (by decide +kernel)
theorem tw_327 : Jvm.Cond.methodLink "java/util/Arrays" (300 : Nat) ({ cls := "java/util/Arrays", name := "copyOf", desc := "([Ljava/lang/Object;ILjava/lang/Class;)[Ljava/lang/Object;" } : Jvm.MethodName) ∈ TW := tw_in 327 (by decide +kernel) (by decide +kernel)
theorem tw_328 : Jvm.Cond.static ({ cls := "java/util/Arrays", name := "copyOf", desc := "([Ljava/lang/Object;ILjava/lang/Class;)[Ljava/lang/Object;" } : Jvm.MethodName) ∈ TW := tw_in 328 (by decide +kernel) (by decide +kernel)
set_option maxRecDepth 100000 in
theorem tw_329 : Jvm.Cond.code ({ cls := "java/util/Arrays", name := "copyOf", desc := "([Ljava/lang/Object;ILjava/lang/Class;)[Ljava/lang/Object;" } : Jvm.MethodName) prog_27_method_120_code (4 : Nat) (Option.some (Jvm.ClassFile.FieldType.array (Jvm.ClassFile.FieldType.object "java/lang/Object"))) ∈ TW := tw_in 329 rfl rfl
theorem tw_330 : Jvm.Cond.classLink "java/util/Arrays" (110 : Nat) "[Ljava/lang/Object;" ∈ TW := tw_in 330 (by decide +kernel) (by decide +kernel)
theorem tw_332 : Jvm.Cond.classLink "java/util/Arrays" (2 : Nat) "java/lang/Object" ∈ TW := tw_in 332 (by decide +kernel) (by decide +kernel)
theorem tw_333 : Jvm.Cond.methodLink "java/util/Arrays" (304 : Nat) ({ cls := "java/lang/Math", name := "min", desc := "(II)I" } : Jvm.MethodName) ∈ TW := tw_in 333 (by decide +kernel) (by decide +kernel)
theorem tw_334 : Jvm.Cond.static ({ cls := "java/lang/Math", name := "min", desc := "(II)I" } : Jvm.MethodName) ∈ TW := tw_in 334 (by decide +kernel) (by decide +kernel)
set_option maxRecDepth 100000 in
theorem tw_335 : Jvm.Cond.code ({ cls := "java/lang/Math", name := "min", desc := "(II)I" } : Jvm.MethodName) prog_19_method_69_code (2 : Nat) (Option.some Jvm.ClassFile.FieldType.int) ∈ TW := tw_in 335 rfl rfl
theorem tw_336 : Jvm.Cond.methodLink "java/util/Arrays" (150 : Nat) ({ cls := "java/lang/System", name := "arraycopy", desc := "(Ljava/lang/Object;ILjava/lang/Object;II)V" } : Jvm.MethodName) ∈ TW := tw_in 336 (by decide +kernel) (by decide +kernel)
theorem tw_337 : Jvm.Cond.static ({ cls := "java/lang/System", name := "arraycopy", desc := "(Ljava/lang/Object;ILjava/lang/Object;II)V" } : Jvm.MethodName) ∈ TW := tw_in 337 (by decide +kernel) (by decide +kernel)
theorem tw_339 : Jvm.Cond.methodLink "java/util/ArrayList" (79 : Nat) ({ cls := "java/lang/Math", name := "max", desc := "(II)I" } : Jvm.MethodName) ∈ TW := tw_in 339 (by decide +kernel) (by decide +kernel)
theorem tw_340 : Jvm.Cond.classLink "java/util/ArrayList" (7 : Nat) "java/lang/Object" ∈ TW := tw_in 340 (by decide +kernel) (by decide +kernel)
theorem tw_341 : Jvm.Cond.methodLink "TokenHouseLaw" (55 : Nat) ({ cls := "TokenHouse", name := "token", desc := "(IIJ)Z" } : Jvm.MethodName) ∈ TW := tw_in 341 (by decide +kernel) (by decide +kernel)
theorem tw_342 : Jvm.Cond.instanceMethod ({ cls := "TokenHouse", name := "token", desc := "(IIJ)Z" } : Jvm.MethodName) ∈ TW := tw_in 342 (by decide +kernel) (by decide +kernel)
theorem tw_343 : Jvm.Cond.selects "TokenHouse" ({ cls := "TokenHouse", name := "token", desc := "(IIJ)Z" } : Jvm.MethodName) ({ cls := "TokenHouse", name := "token", desc := "(IIJ)Z" } : Jvm.MethodName) ∈ TW := tw_in 343 (by decide +kernel) (by decide +kernel)
set_option maxRecDepth 100000 in
theorem tw_344 : Jvm.Cond.code ({ cls := "TokenHouse", name := "token", desc := "(IIJ)Z" } : Jvm.MethodName) prog_1_method_4_code (6 : Nat) (Option.some Jvm.ClassFile.FieldType.boolean) ∈ TW := tw_in 344 rfl rfl
theorem tw_345 : Jvm.Cond.methodLink "TokenHouse" (112 : Nat) ({ cls := "TokenHouse", name := "come", desc := "(LTokenHouse$Node;ILTokenHouse$Value;I)V" } : Jvm.MethodName) ∈ TW := tw_in 345 (by decide +kernel) (by decide +kernel)
theorem tw_347 : Jvm.Cond.instanceMethod ({ cls := "TokenHouse", name := "come", desc := "(LTokenHouse$Node;ILTokenHouse$Value;I)V" } : Jvm.MethodName) ∈ TW := tw_in 347 (by decide +kernel) (by decide +kernel)
set_option maxRecDepth 100000 in
theorem tw_348 : Jvm.Cond.code ({ cls := "TokenHouse", name := "come", desc := "(LTokenHouse$Node;ILTokenHouse$Value;I)V" } : Jvm.MethodName) prog_1_method_14_code (6 : Nat) (Option.none : Option Jvm.ClassFile.FieldType) ∈ TW := tw_in 348 rfl rfl
theorem tw_349 : Jvm.Cond.methodLink "TokenHouse" (214 : Nat) ({ cls := "TokenHouse$Node", name := "frameIn", desc := "(I)LTokenHouse$Frame;" } : Jvm.MethodName) ∈ TW := tw_in 349 (by decide +kernel) (by decide +kernel)
theorem tw_350 : Jvm.Cond.instanceMethod ({ cls := "TokenHouse$Node", name := "frameIn", desc := "(I)LTokenHouse$Frame;" } : Jvm.MethodName) ∈ TW := tw_in 350 (by decide +kernel) (by decide +kernel)
theorem tw_351 : Jvm.Cond.selects "TokenHouse$Node" ({ cls := "TokenHouse$Node", name := "frameIn", desc := "(I)LTokenHouse$Frame;" } : Jvm.MethodName) ({ cls := "TokenHouse$Node", name := "frameIn", desc := "(I)LTokenHouse$Frame;" } : Jvm.MethodName) ∈ TW := tw_in 351 (by decide +kernel) (by decide +kernel)
set_option maxRecDepth 100000 in
theorem tw_352 : Jvm.Cond.code ({ cls := "TokenHouse$Node", name := "frameIn", desc := "(I)LTokenHouse$Frame;" } : Jvm.MethodName) prog_8_method_5_code (4 : Nat) (Option.some (Jvm.ClassFile.FieldType.object "TokenHouse$Frame")) ∈ TW := tw_in 352 rfl rfl
theorem tw_353 : Jvm.Cond.methodLink "TokenHouse$Node" (53 : Nat) ({ cls := "java/util/ArrayList", name := "get", desc := "(I)Ljava/lang/Object;" } : Jvm.MethodName) ∈ TW := tw_in 353 (by decide +kernel) (by decide +kernel)
theorem tw_354 : Jvm.Cond.classLink "TokenHouse$Node" (57 : Nat) "TokenHouse$Frame" ∈ TW := tw_in 354 (by decide +kernel) (by decide +kernel)
theorem tw_355 : Jvm.Cond.methodLink "TokenHouse" (227 : Nat) ({ cls := "TokenHouse$Frame", name := "holds", desc := "(I)Z" } : Jvm.MethodName) ∈ TW := tw_in 355 (by decide +kernel) (by decide +kernel)
theorem tw_356 : Jvm.Cond.instanceMethod ({ cls := "TokenHouse$Frame", name := "holds", desc := "(I)Z" } : Jvm.MethodName) ∈ TW := tw_in 356 (by decide +kernel) (by decide +kernel)
theorem tw_357 : Jvm.Cond.selects "TokenHouse$Frame" ({ cls := "TokenHouse$Frame", name := "holds", desc := "(I)Z" } : Jvm.MethodName) ({ cls := "TokenHouse$Frame", name := "holds", desc := "(I)Z" } : Jvm.MethodName) ∈ TW := tw_in 357 (by decide +kernel) (by decide +kernel)
set_option maxRecDepth 100000 in
theorem tw_358 : Jvm.Cond.code ({ cls := "TokenHouse$Frame", name := "holds", desc := "(I)Z" } : Jvm.MethodName) prog_6_method_2_code (2 : Nat) (Option.some Jvm.ClassFile.FieldType.boolean) ∈ TW := tw_in 358 rfl rfl
theorem tw_359 : Jvm.Cond.methodLink "TokenHouse" (230 : Nat) ({ cls := "TokenHouse$Frames", name := "take", desc := "(LTokenHouse$Node;I)LTokenHouse$Frame;" } : Jvm.MethodName) ∈ TW := tw_in 359 (by decide +kernel) (by decide +kernel)
theorem tw_360 : Jvm.Cond.instanceMethod ({ cls := "TokenHouse$Frames", name := "take", desc := "(LTokenHouse$Node;I)LTokenHouse$Frame;" } : Jvm.MethodName) ∈ TW := tw_in 360 (by decide +kernel) (by decide +kernel)
theorem tw_361 : Jvm.Cond.selects "TokenHouse$Frames" ({ cls := "TokenHouse$Frames", name := "take", desc := "(LTokenHouse$Node;I)LTokenHouse$Frame;" } : Jvm.MethodName) ({ cls := "TokenHouse$Frames", name := "take", desc := "(LTokenHouse$Node;I)LTokenHouse$Frame;" } : Jvm.MethodName) ∈ TW := tw_in 361 (by decide +kernel) (by decide +kernel)
set_option maxRecDepth 100000 in
theorem tw_362 : Jvm.Cond.code ({ cls := "TokenHouse$Frames", name := "take", desc := "(LTokenHouse$Node;I)LTokenHouse$Frame;" } : Jvm.MethodName) prog_7_method_2_code (4 : Nat) (Option.some (Jvm.ClassFile.FieldType.object "TokenHouse$Frame")) ∈ TW := tw_in 362 rfl rfl
theorem tw_363 : Jvm.Cond.methodLink "TokenHouse$Frames" (23 : Nat) ({ cls := "java/util/ArrayList", name := "isEmpty", desc := "()Z" } : Jvm.MethodName) ∈ TW := tw_in 363 (by decide +kernel) (by decide +kernel)
theorem tw_364 : Jvm.Cond.instanceMethod ({ cls := "java/util/ArrayList", name := "isEmpty", desc := "()Z" } : Jvm.MethodName) ∈ TW := tw_in 364 (by decide +kernel) (by decide +kernel)
theorem tw_365 : Jvm.Cond.selects "java/util/ArrayList" ({ cls := "java/util/ArrayList", name := "isEmpty", desc := "()Z" } : Jvm.MethodName) ({ cls := "java/util/ArrayList", name := "isEmpty", desc := "()Z" } : Jvm.MethodName) ∈ TW := tw_in 365 (by decide +kernel) (by decide +kernel)
set_option maxRecDepth 100000 in
theorem tw_366 : Jvm.Cond.code ({ cls := "java/util/ArrayList", name := "isEmpty", desc := "()Z" } : Jvm.MethodName) prog_26_method_9_code (1 : Nat) (Option.some Jvm.ClassFile.FieldType.boolean) ∈ TW := tw_in 366 rfl rfl
theorem tw_367 : Jvm.Cond.classLink "TokenHouse$Frames" (27 : Nat) "TokenHouse$Frame" ∈ TW := tw_in 367 (by decide +kernel) (by decide +kernel)
theorem tw_368 : Jvm.Cond.instantiable "TokenHouse$Frame" (5 : Nat) ∈ TW := tw_in 368 (by decide +kernel) (by decide +kernel)
theorem tw_369 : Jvm.Cond.methodLink "TokenHouse$Frames" (29 : Nat) ({ cls := "TokenHouse$Frame", name := "<init>", desc := "(LTokenHouse$Value;LTokenHouse$Node;I)V" } : Jvm.MethodName) ∈ TW := tw_in 369 (by decide +kernel) (by decide +kernel)
theorem tw_370 : Jvm.Cond.instanceMethod ({ cls := "TokenHouse$Frame", name := "<init>", desc := "(LTokenHouse$Value;LTokenHouse$Node;I)V" } : Jvm.MethodName) ∈ TW := tw_in 370 (by decide +kernel) (by decide +kernel)
set_option maxRecDepth 100000 in
theorem tw_371 : Jvm.Cond.code ({ cls := "TokenHouse$Frame", name := "<init>", desc := "(LTokenHouse$Value;LTokenHouse$Node;I)V" } : Jvm.MethodName) prog_6_method_1_code (5 : Nat) (Option.none : Option Jvm.ClassFile.FieldType) ∈ TW := tw_in 371 rfl rfl
theorem tw_372 : Jvm.Cond.methodLink "TokenHouse$Frame" (3 : Nat) ({ cls := "java/lang/Object", name := "<init>", desc := "()V" } : Jvm.MethodName) ∈ TW := tw_in 372 (by decide +kernel) (by decide +kernel)
theorem tw_373 : Jvm.Cond.classLink "TokenHouse$Frame" (15 : Nat) "TokenHouse$Value" ∈ TW := tw_in 373 (by decide +kernel) (by decide +kernel)
theorem tw_375 : Jvm.Cond.fieldLink "TokenHouse$Frame" (9 : Nat) "TokenHouse$Frame" "nothing" "LTokenHouse$Value;" ∈ TW := tw_in 375 (by decide +kernel) (by decide +kernel)
theorem tw_376 : Jvm.Cond.fieldLink "TokenHouse$Frame" (17 : Nat) "TokenHouse$Frame" "values" "[LTokenHouse$Value;" ∈ TW := tw_in 376 (by decide +kernel) (by decide +kernel)
theorem tw_377 : Jvm.Cond.fieldLink "TokenHouse" (259 : Nat) "TokenHouse$Frame" "values" "[LTokenHouse$Value;" ∈ TW := tw_in 377 (by decide +kernel) (by decide +kernel)
theorem tw_378 : Jvm.Cond.fieldLink "TokenHouse$Frame" (21 : Nat) "TokenHouse$Frame" "node" "LTokenHouse$Node;" ∈ TW := tw_in 378 (by decide +kernel) (by decide +kernel)
theorem tw_379 : Jvm.Cond.fieldLink "TokenHouse$Frames" (44 : Nat) "TokenHouse$Frame" "node" "LTokenHouse$Node;" ∈ TW := tw_in 379 (by decide +kernel) (by decide +kernel)
theorem tw_380 : Jvm.Cond.fieldLink "TokenHouse" (161 : Nat) "TokenHouse$Frame" "node" "LTokenHouse$Node;" ∈ TW := tw_in 380 (by decide +kernel) (by decide +kernel)
theorem tw_381 : Jvm.Cond.fieldLink "TokenHouse$Frame" (25 : Nat) "TokenHouse$Frame" "context" "I" ∈ TW := tw_in 381 (by decide +kernel) (by decide +kernel)
theorem tw_382 : Jvm.Cond.fieldLink "TokenHouse$Frames" (48 : Nat) "TokenHouse$Frame" "context" "I" ∈ TW := tw_in 382 (by decide +kernel) (by decide +kernel)
theorem tw_383 : Jvm.Cond.fieldLink "TokenHouse$Node" (59 : Nat) "TokenHouse$Frame" "context" "I" ∈ TW := tw_in 383 (by decide +kernel) (by decide +kernel)
theorem tw_384 : Jvm.Cond.fieldLink "TokenHouse" (168 : Nat) "TokenHouse$Frame" "context" "I" ∈ TW := tw_in 384 (by decide +kernel) (by decide +kernel)
theorem tw_385 : Jvm.Cond.fieldLink "TokenHouse$Frame" (32 : Nat) "TokenHouse$Frame" "came" "I" ∈ TW := tw_in 385 (by decide +kernel) (by decide +kernel)
theorem tw_386 : Jvm.Cond.fieldLink "TokenHouse" (218 : Nat) "TokenHouse$Frame" "came" "I" ∈ TW := tw_in 386 (by decide +kernel) (by decide +kernel)
theorem tw_398 : Jvm.Cond.methodLink "TokenHouse$Frames" (32 : Nat) ({ cls := "java/util/ArrayList", name := "add", desc := "(Ljava/lang/Object;)Z" } : Jvm.MethodName) ∈ TW := tw_in 398 (by decide +kernel) (by decide +kernel)
theorem tw_399 : Jvm.Cond.methodLink "TokenHouse$Frames" (36 : Nat) ({ cls := "java/util/ArrayList", name := "size", desc := "()I" } : Jvm.MethodName) ∈ TW := tw_in 399 (by decide +kernel) (by decide +kernel)
theorem tw_400 : Jvm.Cond.methodLink "TokenHouse$Frames" (40 : Nat) ({ cls := "java/util/ArrayList", name := "remove", desc := "(I)Ljava/lang/Object;" } : Jvm.MethodName) ∈ TW := tw_in 400 (by decide +kernel) (by decide +kernel)
theorem tw_401 : Jvm.Cond.instanceMethod ({ cls := "java/util/ArrayList", name := "remove", desc := "(I)Ljava/lang/Object;" } : Jvm.MethodName) ∈ TW := tw_in 401 (by decide +kernel) (by decide +kernel)
theorem tw_402 : Jvm.Cond.selects "java/util/ArrayList" ({ cls := "java/util/ArrayList", name := "remove", desc := "(I)Ljava/lang/Object;" } : Jvm.MethodName) ({ cls := "java/util/ArrayList", name := "remove", desc := "(I)Ljava/lang/Object;" } : Jvm.MethodName) ∈ TW := tw_in 402 (by decide +kernel) (by decide +kernel)
set_option maxRecDepth 100000 in
theorem tw_403 : Jvm.Cond.code ({ cls := "java/util/ArrayList", name := "remove", desc := "(I)Ljava/lang/Object;" } : Jvm.MethodName) prog_26_method_29_code (4 : Nat) (Option.some (Jvm.ClassFile.FieldType.object "java/lang/Object")) ∈ TW := tw_in 403 rfl rfl
theorem tw_404 : Jvm.Cond.methodLink "java/util/ArrayList" (144 : Nat) ({ cls := "java/util/ArrayList", name := "fastRemove", desc := "([Ljava/lang/Object;I)V" } : Jvm.MethodName) ∈ TW := tw_in 404 (by decide +kernel) (by decide +kernel)
theorem tw_406 : Jvm.Cond.instanceMethod ({ cls := "java/util/ArrayList", name := "fastRemove", desc := "([Ljava/lang/Object;I)V" } : Jvm.MethodName) ∈ TW := tw_in 406 (by decide +kernel) (by decide +kernel)
set_option maxRecDepth 100000 in
theorem tw_407 : Jvm.Cond.code ({ cls := "java/util/ArrayList", name := "fastRemove", desc := "([Ljava/lang/Object;I)V" } : Jvm.MethodName) prog_26_method_39_code (4 : Nat) (Option.none : Option Jvm.ClassFile.FieldType) ∈ TW := tw_in 407 rfl rfl
theorem tw_408 : Jvm.Cond.methodLink "java/util/ArrayList" (112 : Nat) ({ cls := "java/lang/System", name := "arraycopy", desc := "(Ljava/lang/Object;ILjava/lang/Object;II)V" } : Jvm.MethodName) ∈ TW := tw_in 408 (by decide +kernel) (by decide +kernel)
theorem tw_409 : Jvm.Cond.methodLink "TokenHouse" (89 : Nat) ({ cls := "java/util/ArrayList", name := "add", desc := "(Ljava/lang/Object;)Z" } : Jvm.MethodName) ∈ TW := tw_in 409 (by decide +kernel) (by decide +kernel)
theorem tw_410 : Jvm.Cond.methodLink "TokenHouse" (234 : Nat) ({ cls := "TokenHouse$Frame", name := "put", desc := "(ILTokenHouse$Value;)V" } : Jvm.MethodName) ∈ TW := tw_in 410 (by decide +kernel) (by decide +kernel)
theorem tw_411 : Jvm.Cond.instanceMethod ({ cls := "TokenHouse$Frame", name := "put", desc := "(ILTokenHouse$Value;)V" } : Jvm.MethodName) ∈ TW := tw_in 411 (by decide +kernel) (by decide +kernel)
theorem tw_412 : Jvm.Cond.selects "TokenHouse$Frame" ({ cls := "TokenHouse$Frame", name := "put", desc := "(ILTokenHouse$Value;)V" } : Jvm.MethodName) ({ cls := "TokenHouse$Frame", name := "put", desc := "(ILTokenHouse$Value;)V" } : Jvm.MethodName) ∈ TW := tw_in 412 (by decide +kernel) (by decide +kernel)
set_option maxRecDepth 100000 in
theorem tw_413 : Jvm.Cond.code ({ cls := "TokenHouse$Frame", name := "put", desc := "(ILTokenHouse$Value;)V" } : Jvm.MethodName) prog_6_method_3_code (3 : Nat) (Option.none : Option Jvm.ClassFile.FieldType) ∈ TW := tw_in 413 rfl rfl
theorem tw_414 : Jvm.Cond.methodLink "TokenHouse" (241 : Nat) ({ cls := "TokenHouse$Node", name := "dropFrameIn", desc := "(I)V" } : Jvm.MethodName) ∈ TW := tw_in 414 (by decide +kernel) (by decide +kernel)
theorem tw_415 : Jvm.Cond.instanceMethod ({ cls := "TokenHouse$Node", name := "dropFrameIn", desc := "(I)V" } : Jvm.MethodName) ∈ TW := tw_in 415 (by decide +kernel) (by decide +kernel)
theorem tw_416 : Jvm.Cond.selects "TokenHouse$Node" ({ cls := "TokenHouse$Node", name := "dropFrameIn", desc := "(I)V" } : Jvm.MethodName) ({ cls := "TokenHouse$Node", name := "dropFrameIn", desc := "(I)V" } : Jvm.MethodName) ∈ TW := tw_in 416 (by decide +kernel) (by decide +kernel)
set_option maxRecDepth 100000 in
theorem tw_417 : Jvm.Cond.code ({ cls := "TokenHouse$Node", name := "dropFrameIn", desc := "(I)V" } : Jvm.MethodName) prog_8_method_6_code (3 : Nat) (Option.none : Option Jvm.ClassFile.FieldType) ∈ TW := tw_in 417 rfl rfl
theorem tw_418 : Jvm.Cond.methodLink "TokenHouse$Node" (62 : Nat) ({ cls := "java/util/ArrayList", name := "remove", desc := "(I)Ljava/lang/Object;" } : Jvm.MethodName) ∈ TW := tw_in 418 (by decide +kernel) (by decide +kernel)
theorem tw_419 : Jvm.Cond.methodLink "TokenHouseLaw" (64 : Nat) ({ cls := "TokenHouse", name := "clear", desc := "(Z)V" } : Jvm.MethodName) ∈ TW := tw_in 419 (by decide +kernel) (by decide +kernel)
theorem tw_420 : Jvm.Cond.instanceMethod ({ cls := "TokenHouse", name := "clear", desc := "(Z)V" } : Jvm.MethodName) ∈ TW := tw_in 420 (by decide +kernel) (by decide +kernel)
theorem tw_421 : Jvm.Cond.selects "TokenHouse" ({ cls := "TokenHouse", name := "clear", desc := "(Z)V" } : Jvm.MethodName) ({ cls := "TokenHouse", name := "clear", desc := "(Z)V" } : Jvm.MethodName) ∈ TW := tw_in 421 (by decide +kernel) (by decide +kernel)
set_option maxRecDepth 100000 in
theorem tw_422 : Jvm.Cond.code ({ cls := "TokenHouse", name := "clear", desc := "(Z)V" } : Jvm.MethodName) prog_1_method_6_code (3 : Nat) (Option.none : Option Jvm.ClassFile.FieldType) ∈ TW := tw_in 422 rfl rfl
theorem tw_423 : Jvm.Cond.methodLink "TokenHouse" (140 : Nat) ({ cls := "java/util/ArrayList", name := "clear", desc := "()V" } : Jvm.MethodName) ∈ TW := tw_in 423 (by decide +kernel) (by decide +kernel)
theorem tw_424 : Jvm.Cond.instanceMethod ({ cls := "java/util/ArrayList", name := "clear", desc := "()V" } : Jvm.MethodName) ∈ TW := tw_in 424 (by decide +kernel) (by decide +kernel)
theorem tw_425 : Jvm.Cond.selects "java/util/ArrayList" ({ cls := "java/util/ArrayList", name := "clear", desc := "()V" } : Jvm.MethodName) ({ cls := "java/util/ArrayList", name := "clear", desc := "()V" } : Jvm.MethodName) ∈ TW := tw_in 425 (by decide +kernel) (by decide +kernel)
set_option maxRecDepth 100000 in
theorem tw_426 : Jvm.Cond.code ({ cls := "java/util/ArrayList", name := "clear", desc := "()V" } : Jvm.MethodName) prog_26_method_40_code (4 : Nat) (Option.none : Option Jvm.ClassFile.FieldType) ∈ TW := tw_in 426 rfl rfl
theorem tw_427 : Jvm.Cond.methodLink "TokenHouse" (148 : Nat) ({ cls := "TokenHouse$Cells", name := "forgetAll", desc := "()V" } : Jvm.MethodName) ∈ TW := tw_in 427 (by decide +kernel) (by decide +kernel)
theorem tw_428 : Jvm.Cond.instanceMethod ({ cls := "TokenHouse$Cells", name := "forgetAll", desc := "()V" } : Jvm.MethodName) ∈ TW := tw_in 428 (by decide +kernel) (by decide +kernel)
theorem tw_429 : Jvm.Cond.selects "TokenHouse$Cells" ({ cls := "TokenHouse$Cells", name := "forgetAll", desc := "()V" } : Jvm.MethodName) ({ cls := "TokenHouse$Cells", name := "forgetAll", desc := "()V" } : Jvm.MethodName) ∈ TW := tw_in 429 (by decide +kernel) (by decide +kernel)
set_option maxRecDepth 100000 in
theorem tw_430 : Jvm.Cond.code ({ cls := "TokenHouse$Cells", name := "forgetAll", desc := "()V" } : Jvm.MethodName) prog_4_method_4_code (2 : Nat) (Option.none : Option Jvm.ClassFile.FieldType) ∈ TW := tw_in 430 rfl rfl
theorem tw_431 : Jvm.Cond.methodLink "TokenHouse$Cells" (39 : Nat) ({ cls := "java/util/ArrayList", name := "clear", desc := "()V" } : Jvm.MethodName) ∈ TW := tw_in 431 (by decide +kernel) (by decide +kernel)
theorem tw_432 : Jvm.Cond.methodLink "TokenHouse" (151 : Nat) ({ cls := "TokenHouse$Frames", name := "takeAllBack", desc := "()V" } : Jvm.MethodName) ∈ TW := tw_in 432 (by decide +kernel) (by decide +kernel)
theorem tw_433 : Jvm.Cond.instanceMethod ({ cls := "TokenHouse$Frames", name := "takeAllBack", desc := "()V" } : Jvm.MethodName) ∈ TW := tw_in 433 (by decide +kernel) (by decide +kernel)
theorem tw_434 : Jvm.Cond.selects "TokenHouse$Frames" ({ cls := "TokenHouse$Frames", name := "takeAllBack", desc := "()V" } : Jvm.MethodName) ({ cls := "TokenHouse$Frames", name := "takeAllBack", desc := "()V" } : Jvm.MethodName) ∈ TW := tw_in 434 (by decide +kernel) (by decide +kernel)
set_option maxRecDepth 100000 in
theorem tw_435 : Jvm.Cond.code ({ cls := "TokenHouse$Frames", name := "takeAllBack", desc := "()V" } : Jvm.MethodName) prog_7_method_4_code (2 : Nat) (Option.none : Option Jvm.ClassFile.FieldType) ∈ TW := tw_in 435 rfl rfl
theorem tw_436 : Jvm.Cond.methodLink "TokenHouse$Frames" (55 : Nat) ({ cls := "java/util/ArrayList", name := "clear", desc := "()V" } : Jvm.MethodName) ∈ TW := tw_in 436 (by decide +kernel) (by decide +kernel)
theorem tw_437 : Jvm.Cond.methodLink "TokenHouse$Frames" (58 : Nat) ({ cls := "java/util/ArrayList", name := "get", desc := "(I)Ljava/lang/Object;" } : Jvm.MethodName) ∈ TW := tw_in 437 (by decide +kernel) (by decide +kernel)
theorem tw_438 : Jvm.Cond.methodLink "TokenHouse$Frames" (61 : Nat) ({ cls := "TokenHouse$Frames", name := "takeBack", desc := "(LTokenHouse$Frame;)V" } : Jvm.MethodName) ∈ TW := tw_in 438 (by decide +kernel) (by decide +kernel)
theorem tw_439 : Jvm.Cond.instanceMethod ({ cls := "TokenHouse$Frames", name := "takeBack", desc := "(LTokenHouse$Frame;)V" } : Jvm.MethodName) ∈ TW := tw_in 439 (by decide +kernel) (by decide +kernel)
theorem tw_440 : Jvm.Cond.selects "TokenHouse$Frames" ({ cls := "TokenHouse$Frames", name := "takeBack", desc := "(LTokenHouse$Frame;)V" } : Jvm.MethodName) ({ cls := "TokenHouse$Frames", name := "takeBack", desc := "(LTokenHouse$Frame;)V" } : Jvm.MethodName) ∈ TW := tw_in 440 (by decide +kernel) (by decide +kernel)
set_option maxRecDepth 100000 in
theorem tw_441 : Jvm.Cond.code ({ cls := "TokenHouse$Frames", name := "takeBack", desc := "(LTokenHouse$Frame;)V" } : Jvm.MethodName) prog_7_method_3_code (2 : Nat) (Option.none : Option Jvm.ClassFile.FieldType) ∈ TW := tw_in 441 rfl rfl
theorem tw_442 : Jvm.Cond.methodLink "TokenHouse$Frames" (52 : Nat) ({ cls := "TokenHouse$Frame", name := "empty", desc := "()V" } : Jvm.MethodName) ∈ TW := tw_in 442 (by decide +kernel) (by decide +kernel)
theorem tw_443 : Jvm.Cond.instanceMethod ({ cls := "TokenHouse$Frame", name := "empty", desc := "()V" } : Jvm.MethodName) ∈ TW := tw_in 443 (by decide +kernel) (by decide +kernel)
theorem tw_444 : Jvm.Cond.selects "TokenHouse$Frame" ({ cls := "TokenHouse$Frame", name := "empty", desc := "()V" } : Jvm.MethodName) ({ cls := "TokenHouse$Frame", name := "empty", desc := "()V" } : Jvm.MethodName) ∈ TW := tw_in 444 (by decide +kernel) (by decide +kernel)
set_option maxRecDepth 100000 in
theorem tw_445 : Jvm.Cond.code ({ cls := "TokenHouse$Frame", name := "empty", desc := "()V" } : Jvm.MethodName) prog_6_method_4_code (2 : Nat) (Option.none : Option Jvm.ClassFile.FieldType) ∈ TW := tw_in 445 rfl rfl
theorem tw_446 : Jvm.Cond.methodLink "TokenHouse" (154 : Nat) ({ cls := "TokenHouse$Contexts", name := "forgetAll", desc := "()V" } : Jvm.MethodName) ∈ TW := tw_in 446 (by decide +kernel) (by decide +kernel)
theorem tw_447 : Jvm.Cond.instanceMethod ({ cls := "TokenHouse$Contexts", name := "forgetAll", desc := "()V" } : Jvm.MethodName) ∈ TW := tw_in 447 (by decide +kernel) (by decide +kernel)
theorem tw_448 : Jvm.Cond.selects "TokenHouse$Contexts" ({ cls := "TokenHouse$Contexts", name := "forgetAll", desc := "()V" } : Jvm.MethodName) ({ cls := "TokenHouse$Contexts", name := "forgetAll", desc := "()V" } : Jvm.MethodName) ∈ TW := tw_in 448 (by decide +kernel) (by decide +kernel)
set_option maxRecDepth 100000 in
theorem tw_449 : Jvm.Cond.code ({ cls := "TokenHouse$Contexts", name := "forgetAll", desc := "()V" } : Jvm.MethodName) prog_5_method_8_code (1 : Nat) (Option.none : Option Jvm.ClassFile.FieldType) ∈ TW := tw_in 449 rfl rfl
theorem tw_450 : Jvm.Cond.methodLink "TokenHouseLaw" (69 : Nat) ({ cls := "TokenHouse", name := "ready", desc := "(II)I" } : Jvm.MethodName) ∈ TW := tw_in 450 (by decide +kernel) (by decide +kernel)
theorem tw_451 : Jvm.Cond.instanceMethod ({ cls := "TokenHouse", name := "ready", desc := "(II)I" } : Jvm.MethodName) ∈ TW := tw_in 451 (by decide +kernel) (by decide +kernel)
theorem tw_452 : Jvm.Cond.selects "TokenHouse" ({ cls := "TokenHouse", name := "ready", desc := "(II)I" } : Jvm.MethodName) ({ cls := "TokenHouse", name := "ready", desc := "(II)I" } : Jvm.MethodName) ∈ TW := tw_in 452 (by decide +kernel) (by decide +kernel)
set_option maxRecDepth 100000 in
theorem tw_453 : Jvm.Cond.code ({ cls := "TokenHouse", name := "ready", desc := "(II)I" } : Jvm.MethodName) prog_1_method_7_code (4 : Nat) (Option.some Jvm.ClassFile.FieldType.int) ∈ TW := tw_in 453 rfl rfl
theorem tw_454 : Jvm.Cond.classLink "TokenHouse" (134 : Nat) "TokenHouse$Frame" ∈ TW := tw_in 454 (by decide +kernel) (by decide +kernel)
theorem tw_455 : Jvm.Cond.methodLink "TokenHouseLaw" (83 : Nat) ({ cls := "TokenHouse", name := "waiting", desc := "(II)I" } : Jvm.MethodName) ∈ TW := tw_in 455 (by decide +kernel) (by decide +kernel)
theorem tw_456 : Jvm.Cond.instanceMethod ({ cls := "TokenHouse", name := "waiting", desc := "(II)I" } : Jvm.MethodName) ∈ TW := tw_in 456 (by decide +kernel) (by decide +kernel)
theorem tw_457 : Jvm.Cond.selects "TokenHouse" ({ cls := "TokenHouse", name := "waiting", desc := "(II)I" } : Jvm.MethodName) ({ cls := "TokenHouse", name := "waiting", desc := "(II)I" } : Jvm.MethodName) ∈ TW := tw_in 457 (by decide +kernel) (by decide +kernel)
set_option maxRecDepth 100000 in
theorem tw_458 : Jvm.Cond.code ({ cls := "TokenHouse", name := "waiting", desc := "(II)I" } : Jvm.MethodName) prog_1_method_11_code (5 : Nat) (Option.some Jvm.ClassFile.FieldType.int) ∈ TW := tw_in 458 rfl rfl
theorem tw_459 : Jvm.Cond.methodLink "TokenHouse" (188 : Nat) ({ cls := "TokenHouse$Contexts", name := "has", desc := "(I)Z" } : Jvm.MethodName) ∈ TW := tw_in 459 (by decide +kernel) (by decide +kernel)
theorem tw_460 : Jvm.Cond.instanceMethod ({ cls := "TokenHouse$Contexts", name := "has", desc := "(I)Z" } : Jvm.MethodName) ∈ TW := tw_in 460 (by decide +kernel) (by decide +kernel)
theorem tw_461 : Jvm.Cond.selects "TokenHouse$Contexts" ({ cls := "TokenHouse$Contexts", name := "has", desc := "(I)Z" } : Jvm.MethodName) ({ cls := "TokenHouse$Contexts", name := "has", desc := "(I)Z" } : Jvm.MethodName) ∈ TW := tw_in 461 (by decide +kernel) (by decide +kernel)
set_option maxRecDepth 100000 in
theorem tw_462 : Jvm.Cond.code ({ cls := "TokenHouse$Contexts", name := "has", desc := "(I)Z" } : Jvm.MethodName) prog_5_method_2_code (2 : Nat) (Option.some Jvm.ClassFile.FieldType.boolean) ∈ TW := tw_in 462 rfl rfl
theorem tw_463 : Jvm.Cond.methodLink "TokenHouseLaw" (87 : Nat) ({ cls := "TokenHouse", name := "total", desc := "(I)I" } : Jvm.MethodName) ∈ TW := tw_in 463 (by decide +kernel) (by decide +kernel)
theorem tw_464 : Jvm.Cond.instanceMethod ({ cls := "TokenHouse", name := "total", desc := "(I)I" } : Jvm.MethodName) ∈ TW := tw_in 464 (by decide +kernel) (by decide +kernel)
theorem tw_465 : Jvm.Cond.selects "TokenHouse" ({ cls := "TokenHouse", name := "total", desc := "(I)I" } : Jvm.MethodName) ({ cls := "TokenHouse", name := "total", desc := "(I)I" } : Jvm.MethodName) ∈ TW := tw_in 465 (by decide +kernel) (by decide +kernel)
set_option maxRecDepth 100000 in
theorem tw_466 : Jvm.Cond.code ({ cls := "TokenHouse", name := "total", desc := "(I)I" } : Jvm.MethodName) prog_1_method_12_code (2 : Nat) (Option.some Jvm.ClassFile.FieldType.int) ∈ TW := tw_in 466 rfl rfl
theorem tw_467 : Jvm.Cond.methodLink "TokenHouseLaw" (38 : Nat) ({ cls := "TokenHouseLaw", name := "node", desc := "(LTokenHouse;II[J)I" } : Jvm.MethodName) ∈ TW := tw_in 467 (by decide +kernel) (by decide +kernel)
theorem tw_468 : Jvm.Cond.static ({ cls := "TokenHouseLaw", name := "node", desc := "(LTokenHouse;II[J)I" } : Jvm.MethodName) ∈ TW := tw_in 468 (by decide +kernel) (by decide +kernel)
theorem tw_470 : Jvm.Cond.classLink "TokenHouseLaw" (13 : Nat) "java/lang/IllegalArgumentException" ∈ TW := tw_in 470 (by decide +kernel) (by decide +kernel)
theorem tw_471 : Jvm.Cond.classLink "TokenHouseLaw" (15 : Nat) "java/lang/IllegalStateException" ∈ TW := tw_in 471 (by decide +kernel) (by decide +kernel)
theorem tw_472 : Jvm.Cond.methodLink "TokenHouseLaw" (7 : Nat) ({ cls := "TokenHouse", name := "node", desc := "(II)I" } : Jvm.MethodName) ∈ TW := tw_in 472 (by decide +kernel) (by decide +kernel)
theorem tw_473 : Jvm.Cond.instanceMethod ({ cls := "TokenHouse", name := "node", desc := "(II)I" } : Jvm.MethodName) ∈ TW := tw_in 473 (by decide +kernel) (by decide +kernel)
theorem tw_474 : Jvm.Cond.selects "TokenHouse" ({ cls := "TokenHouse", name := "node", desc := "(II)I" } : Jvm.MethodName) ({ cls := "TokenHouse", name := "node", desc := "(II)I" } : Jvm.MethodName) ∈ TW := tw_in 474 (by decide +kernel) (by decide +kernel)
set_option maxRecDepth 100000 in
theorem tw_475 : Jvm.Cond.code ({ cls := "TokenHouse", name := "node", desc := "(II)I" } : Jvm.MethodName) prog_1_method_2_code (4 : Nat) (Option.some Jvm.ClassFile.FieldType.int) ∈ TW := tw_in 475 rfl rfl
theorem tw_476 : Jvm.Cond.fieldLink "TokenHouse" (54 : Nat) "TokenHouse" "PORTS" "[I" ∈ TW := tw_in 476 (by decide +kernel) (by decide +kernel)
theorem tw_478 : Jvm.Cond.classLink "TokenHouse" (58 : Nat) "java/lang/IllegalArgumentException" ∈ TW := tw_in 478 (by decide +kernel) (by decide +kernel)
theorem tw_479 : Jvm.Cond.instantiable "java/lang/IllegalArgumentException" (6 : Nat) ∈ TW := tw_in 479 (by decide +kernel) (by decide +kernel)
theorem tw_487 : Jvm.Cond.selects "java/lang/IllegalArgumentException" ({ cls := "java/lang/Throwable", name := "fillInStackTrace", desc := "(I)Ljava/lang/Throwable;" } : Jvm.MethodName) ({ cls := "java/lang/Throwable", name := "fillInStackTrace", desc := "(I)Ljava/lang/Throwable;" } : Jvm.MethodName) ∈ TW := tw_in 487 (by decide +kernel) (by decide +kernel)
theorem tw_488 : Jvm.Cond.selects "java/lang/IllegalArgumentException" ({ cls := "java/lang/Throwable", name := "fillInStackTrace", desc := "()Ljava/lang/Throwable;" } : Jvm.MethodName) ({ cls := "java/lang/Throwable", name := "fillInStackTrace", desc := "()Ljava/lang/Throwable;" } : Jvm.MethodName) ∈ TW := tw_in 488 (by decide +kernel) (by decide +kernel)
theorem tw_499 : Jvm.Cond.fieldLink "java/lang/Throwable" (198 : Nat) "java/lang/Throwable" "backtrace" "Ljava/lang/Object;" ∈ TW := tw_in 499 (by decide +kernel) (by decide +kernel)
theorem tw_501 : Jvm.Cond.instanceMethod ({ cls := "java/lang/Throwable", name := "<init>", desc := "()V" } : Jvm.MethodName) ∈ TW := tw_in 501 (by decide +kernel) (by decide +kernel)
set_option maxRecDepth 100000 in
theorem tw_502 : Jvm.Cond.code ({ cls := "java/lang/Throwable", name := "<init>", desc := "()V" } : Jvm.MethodName) prog_23_method_1_code (1 : Nat) (Option.none : Option Jvm.ClassFile.FieldType) ∈ TW := tw_in 502 rfl rfl
theorem tw_503 : Jvm.Cond.methodLink "java/lang/Throwable" (1 : Nat) ({ cls := "java/lang/Object", name := "<init>", desc := "()V" } : Jvm.MethodName) ∈ TW := tw_in 503 (by decide +kernel) (by decide +kernel)
theorem tw_504 : Jvm.Cond.fieldLink "java/lang/Throwable" (13 : Nat) "java/lang/Throwable" "UNASSIGNED_STACK" "[Ljava/lang/StackTraceElement;" ∈ TW := tw_in 504 (by decide +kernel) (by decide +kernel)
theorem tw_506 : Jvm.Cond.fieldLink "java/lang/Throwable" (20 : Nat) "java/lang/Throwable" "SUPPRESSED_SENTINEL" "Ljava/util/List;" ∈ TW := tw_in 506 (by decide +kernel) (by decide +kernel)
theorem tw_508 : Jvm.Cond.methodLink "java/lang/Throwable" (27 : Nat) ({ cls := "java/lang/Throwable", name := "fillInStackTrace", desc := "()Ljava/lang/Throwable;" } : Jvm.MethodName) ∈ TW := tw_in 508 (by decide +kernel) (by decide +kernel)
theorem tw_509 : Jvm.Cond.instanceMethod ({ cls := "java/lang/Throwable", name := "fillInStackTrace", desc := "()Ljava/lang/Throwable;" } : Jvm.MethodName) ∈ TW := tw_in 509 (by decide +kernel) (by decide +kernel)
theorem tw_511 : Jvm.Cond.selects "java/lang/IllegalStateException" ({ cls := "java/lang/Throwable", name := "fillInStackTrace", desc := "()Ljava/lang/Throwable;" } : Jvm.MethodName) ({ cls := "java/lang/Throwable", name := "fillInStackTrace", desc := "()Ljava/lang/Throwable;" } : Jvm.MethodName) ∈ TW := tw_in 511 (by decide +kernel) (by decide +kernel)
theorem tw_512 : Jvm.Cond.selects "java/util/NoSuchElementException" ({ cls := "java/lang/Throwable", name := "fillInStackTrace", desc := "()Ljava/lang/Throwable;" } : Jvm.MethodName) ({ cls := "java/lang/Throwable", name := "fillInStackTrace", desc := "()Ljava/lang/Throwable;" } : Jvm.MethodName) ∈ TW := tw_in 512 (by decide +kernel) (by decide +kernel)
theorem tw_514 : Jvm.Cond.methodLink "java/lang/Throwable" (202 : Nat) ({ cls := "java/lang/Throwable", name := "fillInStackTrace", desc := "(I)Ljava/lang/Throwable;" } : Jvm.MethodName) ∈ TW := tw_in 514 (by decide +kernel) (by decide +kernel)
theorem tw_516 : Jvm.Cond.instanceMethod ({ cls := "java/lang/Throwable", name := "fillInStackTrace", desc := "(I)Ljava/lang/Throwable;" } : Jvm.MethodName) ∈ TW := tw_in 516 (by decide +kernel) (by decide +kernel)
theorem tw_517 : Jvm.Cond.instantiable "java/lang/Throwable" (6 : Nat) ∈ TW := tw_in 517 (by decide +kernel) (by decide +kernel)
theorem tw_520 : Jvm.Cond.methodLink "TokenHouse" (62 : Nat) ({ cls := "java/lang/IllegalArgumentException", name := "<init>", desc := "(Ljava/lang/String;)V" } : Jvm.MethodName) ∈ TW := tw_in 520 (by decide +kernel) (by decide +kernel)
theorem tw_521 : Jvm.Cond.instanceMethod ({ cls := "java/lang/IllegalArgumentException", name := "<init>", desc := "(Ljava/lang/String;)V" } : Jvm.MethodName) ∈ TW := tw_in 521 (by decide +kernel) (by decide +kernel)
set_option maxRecDepth 100000 in
theorem tw_522 : Jvm.Cond.code ({ cls := "java/lang/IllegalArgumentException", name := "<init>", desc := "(Ljava/lang/String;)V" } : Jvm.MethodName) prog_16_method_2_code (2 : Nat) (Option.none : Option Jvm.ClassFile.FieldType) ∈ TW := tw_in 522 rfl rfl
theorem tw_523 : Jvm.Cond.methodLink "java/lang/IllegalArgumentException" (7 : Nat) ({ cls := "java/lang/RuntimeException", name := "<init>", desc := "(Ljava/lang/String;)V" } : Jvm.MethodName) ∈ TW := tw_in 523 (by decide +kernel) (by decide +kernel)
theorem tw_524 : Jvm.Cond.instanceMethod ({ cls := "java/lang/RuntimeException", name := "<init>", desc := "(Ljava/lang/String;)V" } : Jvm.MethodName) ∈ TW := tw_in 524 (by decide +kernel) (by decide +kernel)
set_option maxRecDepth 100000 in
theorem tw_525 : Jvm.Cond.code ({ cls := "java/lang/RuntimeException", name := "<init>", desc := "(Ljava/lang/String;)V" } : Jvm.MethodName) prog_20_method_2_code (2 : Nat) (Option.none : Option Jvm.ClassFile.FieldType) ∈ TW := tw_in 525 rfl rfl
theorem tw_526 : Jvm.Cond.methodLink "java/lang/RuntimeException" (7 : Nat) ({ cls := "java/lang/Exception", name := "<init>", desc := "(Ljava/lang/String;)V" } : Jvm.MethodName) ∈ TW := tw_in 526 (by decide +kernel) (by decide +kernel)
theorem tw_527 : Jvm.Cond.instanceMethod ({ cls := "java/lang/Exception", name := "<init>", desc := "(Ljava/lang/String;)V" } : Jvm.MethodName) ∈ TW := tw_in 527 (by decide +kernel) (by decide +kernel)
set_option maxRecDepth 100000 in
theorem tw_528 : Jvm.Cond.code ({ cls := "java/lang/Exception", name := "<init>", desc := "(Ljava/lang/String;)V" } : Jvm.MethodName) prog_15_method_2_code (2 : Nat) (Option.none : Option Jvm.ClassFile.FieldType) ∈ TW := tw_in 528 rfl rfl
theorem tw_529 : Jvm.Cond.methodLink "java/lang/Exception" (7 : Nat) ({ cls := "java/lang/Throwable", name := "<init>", desc := "(Ljava/lang/String;)V" } : Jvm.MethodName) ∈ TW := tw_in 529 (by decide +kernel) (by decide +kernel)
theorem tw_530 : Jvm.Cond.instanceMethod ({ cls := "java/lang/Throwable", name := "<init>", desc := "(Ljava/lang/String;)V" } : Jvm.MethodName) ∈ TW := tw_in 530 (by decide +kernel) (by decide +kernel)
set_option maxRecDepth 100000 in
theorem tw_531 : Jvm.Cond.code ({ cls := "java/lang/Throwable", name := "<init>", desc := "(Ljava/lang/String;)V" } : Jvm.MethodName) prog_23_method_2_code (2 : Nat) (Option.none : Option Jvm.ClassFile.FieldType) ∈ TW := tw_in 531 rfl rfl
theorem tw_532 : Jvm.Cond.fieldLink "java/lang/Throwable" (198 : Nat) "java/lang/Throwable" "backtrace" "Ljava/lang/Object;" ∈ TW := tw_in 532 (by decide +kernel) (by decide +kernel)
theorem tw_533 : Jvm.Cond.fieldLink "java/lang/Throwable" (31 : Nat) "java/lang/Throwable" "detailMessage" "Ljava/lang/String;" ∈ TW := tw_in 533 (by decide +kernel) (by decide +kernel)
theorem tw_534 : Jvm.Cond.fieldLink "java/lang/Throwable" (7 : Nat) "java/lang/Throwable" "cause" "Ljava/lang/Throwable;" ∈ TW := tw_in 534 (by decide +kernel) (by decide +kernel)
theorem tw_535 : Jvm.Cond.fieldLink "java/lang/Throwable" (17 : Nat) "java/lang/Throwable" "stackTrace" "[Ljava/lang/StackTraceElement;" ∈ TW := tw_in 535 (by decide +kernel) (by decide +kernel)
theorem tw_536 : Jvm.Cond.fieldLink "java/lang/Throwable" (24 : Nat) "java/lang/Throwable" "suppressedExceptions" "Ljava/util/List;" ∈ TW := tw_in 536 (by decide +kernel) (by decide +kernel)
theorem tw_545 : Jvm.Cond.arrayClass Jvm.ClassFile.FieldType.byte ∈ TW := tw_in 545 (by decide +kernel) (by decide +kernel)
theorem tw_546 : Jvm.Cond.classLink "TokenHouse" (73 : Nat) "java/lang/IllegalStateException" ∈ TW := tw_in 546 (by decide +kernel) (by decide +kernel)
theorem tw_547 : Jvm.Cond.instantiable "java/lang/IllegalStateException" (6 : Nat) ∈ TW := tw_in 547 (by decide +kernel) (by decide +kernel)
theorem tw_549 : Jvm.Cond.selects "java/lang/IllegalStateException" ({ cls := "java/lang/Throwable", name := "fillInStackTrace", desc := "(I)Ljava/lang/Throwable;" } : Jvm.MethodName) ({ cls := "java/lang/Throwable", name := "fillInStackTrace", desc := "(I)Ljava/lang/Throwable;" } : Jvm.MethodName) ∈ TW := tw_in 549 (by decide +kernel) (by decide +kernel)
theorem tw_556 : Jvm.Cond.methodLink "TokenHouse" (77 : Nat) ({ cls := "java/lang/IllegalStateException", name := "<init>", desc := "(Ljava/lang/String;)V" } : Jvm.MethodName) ∈ TW := tw_in 556 (by decide +kernel) (by decide +kernel)
theorem tw_557 : Jvm.Cond.instanceMethod ({ cls := "java/lang/IllegalStateException", name := "<init>", desc := "(Ljava/lang/String;)V" } : Jvm.MethodName) ∈ TW := tw_in 557 (by decide +kernel) (by decide +kernel)
set_option maxRecDepth 100000 in
theorem tw_558 : Jvm.Cond.code ({ cls := "java/lang/IllegalStateException", name := "<init>", desc := "(Ljava/lang/String;)V" } : Jvm.MethodName) prog_17_method_2_code (2 : Nat) (Option.none : Option Jvm.ClassFile.FieldType) ∈ TW := tw_in 558 rfl rfl
theorem tw_559 : Jvm.Cond.methodLink "java/lang/IllegalStateException" (7 : Nat) ({ cls := "java/lang/RuntimeException", name := "<init>", desc := "(Ljava/lang/String;)V" } : Jvm.MethodName) ∈ TW := tw_in 559 (by decide +kernel) (by decide +kernel)
theorem tw_562 : Jvm.Cond.instantiable "TokenHouse$Node" (8 : Nat) ∈ TW := tw_in 562 (by decide +kernel) (by decide +kernel)
theorem tw_563 : Jvm.Cond.fieldLink "TokenHouse" (80 : Nat) "TokenHouse" "WANTED_X" "[I" ∈ TW := tw_in 563 (by decide +kernel) (by decide +kernel)
theorem tw_565 : Jvm.Cond.fieldLink "TokenHouse" (83 : Nat) "TokenHouse" "WANTED_Y" "[I" ∈ TW := tw_in 565 (by decide +kernel) (by decide +kernel)
theorem tw_567 : Jvm.Cond.methodLink "TokenHouse" (86 : Nat) ({ cls := "TokenHouse$Node", name := "<init>", desc := "(IIIIII)V" } : Jvm.MethodName) ∈ TW := tw_in 567 (by decide +kernel) (by decide +kernel)
theorem tw_568 : Jvm.Cond.instanceMethod ({ cls := "TokenHouse$Node", name := "<init>", desc := "(IIIIII)V" } : Jvm.MethodName) ∈ TW := tw_in 568 (by decide +kernel) (by decide +kernel)
set_option maxRecDepth 100000 in
theorem tw_569 : Jvm.Cond.code ({ cls := "TokenHouse$Node", name := "<init>", desc := "(IIIIII)V" } : Jvm.MethodName) prog_8_method_1_code (7 : Nat) (Option.none : Option Jvm.ClassFile.FieldType) ∈ TW := tw_in 569 rfl rfl
theorem tw_570 : Jvm.Cond.methodLink "TokenHouse$Node" (3 : Nat) ({ cls := "java/lang/Object", name := "<init>", desc := "()V" } : Jvm.MethodName) ∈ TW := tw_in 570 (by decide +kernel) (by decide +kernel)
theorem tw_571 : Jvm.Cond.classLink "TokenHouse$Node" (30 : Nat) "java/util/ArrayList" ∈ TW := tw_in 571 (by decide +kernel) (by decide +kernel)
theorem tw_572 : Jvm.Cond.methodLink "TokenHouse$Node" (32 : Nat) ({ cls := "java/util/ArrayList", name := "<init>", desc := "()V" } : Jvm.MethodName) ∈ TW := tw_in 572 (by decide +kernel) (by decide +kernel)
theorem tw_573 : Jvm.Cond.fieldLink "TokenHouse$Node" (9 : Nat) "TokenHouse$Node" "number" "I" ∈ TW := tw_in 573 (by decide +kernel) (by decide +kernel)
theorem tw_574 : Jvm.Cond.fieldLink "TokenHouse" (165 : Nat) "TokenHouse$Node" "number" "I" ∈ TW := tw_in 574 (by decide +kernel) (by decide +kernel)
theorem tw_575 : Jvm.Cond.fieldLink "TokenHouse$Node" (15 : Nat) "TokenHouse$Node" "op" "I" ∈ TW := tw_in 575 (by decide +kernel) (by decide +kernel)
theorem tw_576 : Jvm.Cond.fieldLink "TokenHouse" (286 : Nat) "TokenHouse$Node" "op" "I" ∈ TW := tw_in 576 (by decide +kernel) (by decide +kernel)
theorem tw_577 : Jvm.Cond.fieldLink "TokenHouse$Node" (18 : Nat) "TokenHouse$Node" "n" "I" ∈ TW := tw_in 577 (by decide +kernel) (by decide +kernel)
theorem tw_578 : Jvm.Cond.fieldLink "TokenHouse" (326 : Nat) "TokenHouse$Node" "n" "I" ∈ TW := tw_in 578 (by decide +kernel) (by decide +kernel)
theorem tw_579 : Jvm.Cond.fieldLink "TokenHouse$Node" (21 : Nat) "TokenHouse$Node" "ports" "I" ∈ TW := tw_in 579 (by decide +kernel) (by decide +kernel)
theorem tw_580 : Jvm.Cond.fieldLink "TokenHouse" (238 : Nat) "TokenHouse$Node" "ports" "I" ∈ TW := tw_in 580 (by decide +kernel) (by decide +kernel)
theorem tw_581 : Jvm.Cond.fieldLink "TokenHouse$Node" (24 : Nat) "TokenHouse$Node" "wantedX" "I" ∈ TW := tw_in 581 (by decide +kernel) (by decide +kernel)
theorem tw_582 : Jvm.Cond.fieldLink "TokenHouse" (266 : Nat) "TokenHouse$Node" "wantedX" "I" ∈ TW := tw_in 582 (by decide +kernel) (by decide +kernel)
theorem tw_583 : Jvm.Cond.fieldLink "TokenHouse$Node" (27 : Nat) "TokenHouse$Node" "wantedY" "I" ∈ TW := tw_in 583 (by decide +kernel) (by decide +kernel)
theorem tw_584 : Jvm.Cond.fieldLink "TokenHouse" (273 : Nat) "TokenHouse$Node" "wantedY" "I" ∈ TW := tw_in 584 (by decide +kernel) (by decide +kernel)
theorem tw_585 : Jvm.Cond.fieldLink "TokenHouse$Node" (33 : Nat) "TokenHouse$Node" "arcs" "Ljava/util/ArrayList;" ∈ TW := tw_in 585 (by decide +kernel) (by decide +kernel)
theorem tw_586 : Jvm.Cond.fieldLink "TokenHouse" (245 : Nat) "TokenHouse$Node" "arcs" "Ljava/util/ArrayList;" ∈ TW := tw_in 586 (by decide +kernel) (by decide +kernel)
theorem tw_587 : Jvm.Cond.fieldLink "TokenHouse$Node" (37 : Nat) "TokenHouse$Node" "frames" "Ljava/util/ArrayList;" ∈ TW := tw_in 587 (by decide +kernel) (by decide +kernel)
theorem tw_588 : Jvm.Cond.fieldLink "TokenHouse" (146 : Nat) "TokenHouse$Node" "frames" "Ljava/util/ArrayList;" ∈ TW := tw_in 588 (by decide +kernel) (by decide +kernel)
theorem tw_606 : Jvm.Cond.methodLink "TokenHouseLaw" (60 : Nat) ({ cls := "TokenHouseLaw", name := "run", desc := "(LTokenHouse;IJ[J)I" } : Jvm.MethodName) ∈ TW := tw_in 606 (by decide +kernel) (by decide +kernel)
theorem tw_607 : Jvm.Cond.static ({ cls := "TokenHouseLaw", name := "run", desc := "(LTokenHouse;IJ[J)I" } : Jvm.MethodName) ∈ TW := tw_in 607 (by decide +kernel) (by decide +kernel)
theorem tw_609 : Jvm.Cond.methodLink "TokenHouseLaw" (17 : Nat) ({ cls := "TokenHouse", name := "run", desc := "(IJ)I" } : Jvm.MethodName) ∈ TW := tw_in 609 (by decide +kernel) (by decide +kernel)
theorem tw_610 : Jvm.Cond.instanceMethod ({ cls := "TokenHouse", name := "run", desc := "(IJ)I" } : Jvm.MethodName) ∈ TW := tw_in 610 (by decide +kernel) (by decide +kernel)
theorem tw_611 : Jvm.Cond.selects "TokenHouse" ({ cls := "TokenHouse", name := "run", desc := "(IJ)I" } : Jvm.MethodName) ({ cls := "TokenHouse", name := "run", desc := "(IJ)I" } : Jvm.MethodName) ∈ TW := tw_in 611 (by decide +kernel) (by decide +kernel)
set_option maxRecDepth 100000 in
theorem tw_612 : Jvm.Cond.code ({ cls := "TokenHouse", name := "run", desc := "(IJ)I" } : Jvm.MethodName) prog_1_method_5_code (9 : Nat) (Option.some Jvm.ClassFile.FieldType.int) ∈ TW := tw_in 612 rfl rfl
theorem tw_615 : Jvm.Cond.constantLong "TokenHouse" (123 : Nat) (25214903917 : Int64) ∈ TW := tw_in 615 (by decide +kernel) (by decide +kernel)
theorem tw_616 : Jvm.Cond.constantLong "TokenHouse" (125 : Nat) (11 : Int64) ∈ TW := tw_in 616 (by decide +kernel) (by decide +kernel)
theorem tw_617 : Jvm.Cond.methodLink "TokenHouse" (130 : Nat) ({ cls := "java/util/ArrayList", name := "remove", desc := "(I)Ljava/lang/Object;" } : Jvm.MethodName) ∈ TW := tw_in 617 (by decide +kernel) (by decide +kernel)
theorem tw_618 : Jvm.Cond.methodLink "TokenHouse" (136 : Nat) ({ cls := "TokenHouse", name := "go", desc := "(LTokenHouse$Frame;)V" } : Jvm.MethodName) ∈ TW := tw_in 618 (by decide +kernel) (by decide +kernel)
theorem tw_620 : Jvm.Cond.instanceMethod ({ cls := "TokenHouse", name := "go", desc := "(LTokenHouse$Frame;)V" } : Jvm.MethodName) ∈ TW := tw_in 620 (by decide +kernel) (by decide +kernel)
set_option maxRecDepth 100000 in
theorem tw_621 : Jvm.Cond.code ({ cls := "TokenHouse", name := "go", desc := "(LTokenHouse$Frame;)V" } : Jvm.MethodName) prog_1_method_17_code (8 : Nat) (Option.none : Option Jvm.ClassFile.FieldType) ∈ TW := tw_in 621 rfl rfl
theorem tw_622 : Jvm.Cond.methodLink "TokenHouse" (263 : Nat) ({ cls := "TokenHouse$Frames", name := "takeBack", desc := "(LTokenHouse$Frame;)V" } : Jvm.MethodName) ∈ TW := tw_in 622 (by decide +kernel) (by decide +kernel)
theorem tw_623 : Jvm.Cond.methodLink "TokenHouse" (269 : Nat) ({ cls := "TokenHouse", name := "errorOf", desc := "(LTokenHouse$Value;I)I" } : Jvm.MethodName) ∈ TW := tw_in 623 (by decide +kernel) (by decide +kernel)
theorem tw_624 : Jvm.Cond.static ({ cls := "TokenHouse", name := "errorOf", desc := "(LTokenHouse$Value;I)I" } : Jvm.MethodName) ∈ TW := tw_in 624 (by decide +kernel) (by decide +kernel)
set_option maxRecDepth 100000 in
theorem tw_625 : Jvm.Cond.code ({ cls := "TokenHouse", name := "errorOf", desc := "(LTokenHouse$Value;I)I" } : Jvm.MethodName) prog_1_method_18_code (2 : Nat) (Option.some Jvm.ClassFile.FieldType.int) ∈ TW := tw_in 625 rfl rfl
theorem tw_626 : Jvm.Cond.methodLink "TokenHouse" (276 : Nat) ({ cls := "java/lang/Math", name := "min", desc := "(II)I" } : Jvm.MethodName) ∈ TW := tw_in 626 (by decide +kernel) (by decide +kernel)
theorem tw_627 : Jvm.Cond.methodLink "TokenHouse" (282 : Nat) ({ cls := "TokenHouse", name := "give", desc := "(LTokenHouse$Node;LTokenHouse$Value;I)V" } : Jvm.MethodName) ∈ TW := tw_in 627 (by decide +kernel) (by decide +kernel)
theorem tw_629 : Jvm.Cond.instanceMethod ({ cls := "TokenHouse", name := "give", desc := "(LTokenHouse$Node;LTokenHouse$Value;I)V" } : Jvm.MethodName) ∈ TW := tw_in 629 (by decide +kernel) (by decide +kernel)
set_option maxRecDepth 100000 in
theorem tw_630 : Jvm.Cond.code ({ cls := "TokenHouse", name := "give", desc := "(LTokenHouse$Node;LTokenHouse$Value;I)V" } : Jvm.MethodName) prog_1_method_15_code (6 : Nat) (Option.none : Option Jvm.ClassFile.FieldType) ∈ TW := tw_in 630 rfl rfl
theorem tw_631 : Jvm.Cond.classLink "TokenHouse" (248 : Nat) "TokenHouse$Arc" ∈ TW := tw_in 631 (by decide +kernel) (by decide +kernel)
theorem tw_632 : Jvm.Cond.methodLink "TokenHouse" (289 : Nat) ({ cls := "TokenHouse", name := "choose", desc := "(LTokenHouse$Node;ILTokenHouse$Value;LTokenHouse$Value;)V" } : Jvm.MethodName) ∈ TW := tw_in 632 (by decide +kernel) (by decide +kernel)
theorem tw_634 : Jvm.Cond.instanceMethod ({ cls := "TokenHouse", name := "choose", desc := "(LTokenHouse$Node;ILTokenHouse$Value;LTokenHouse$Value;)V" } : Jvm.MethodName) ∈ TW := tw_in 634 (by decide +kernel) (by decide +kernel)
set_option maxRecDepth 100000 in
theorem tw_635 : Jvm.Cond.code ({ cls := "TokenHouse", name := "choose", desc := "(LTokenHouse$Node;ILTokenHouse$Value;LTokenHouse$Value;)V" } : Jvm.MethodName) prog_1_method_21_code (6 : Nat) (Option.none : Option Jvm.ClassFile.FieldType) ∈ TW := tw_in 635 rfl rfl
theorem tw_636 : Jvm.Cond.methodLink "TokenHouse" (329 : Nat) ({ cls := "TokenHouse", name := "giveOnSide", desc := "(LTokenHouse$Node;ILTokenHouse$Value;I)V" } : Jvm.MethodName) ∈ TW := tw_in 636 (by decide +kernel) (by decide +kernel)
theorem tw_638 : Jvm.Cond.instanceMethod ({ cls := "TokenHouse", name := "giveOnSide", desc := "(LTokenHouse$Node;ILTokenHouse$Value;I)V" } : Jvm.MethodName) ∈ TW := tw_in 638 (by decide +kernel) (by decide +kernel)
set_option maxRecDepth 100000 in
theorem tw_639 : Jvm.Cond.code ({ cls := "TokenHouse", name := "giveOnSide", desc := "(LTokenHouse$Node;ILTokenHouse$Value;I)V" } : Jvm.MethodName) prog_1_method_16_code (7 : Nat) (Option.none : Option Jvm.ClassFile.FieldType) ∈ TW := tw_in 639 rfl rfl
theorem tw_640 : Jvm.Cond.constantLong "TokenHouse" (332 : Nat) (4 : Int64) ∈ TW := tw_in 640 (by decide +kernel) (by decide +kernel)
theorem tw_641 : Jvm.Cond.methodLink "TokenHouse" (293 : Nat) ({ cls := "TokenHouse", name := "move", desc := "(LTokenHouse$Node;ILTokenHouse$Value;)V" } : Jvm.MethodName) ∈ TW := tw_in 641 (by decide +kernel) (by decide +kernel)
theorem tw_643 : Jvm.Cond.instanceMethod ({ cls := "TokenHouse", name := "move", desc := "(LTokenHouse$Node;ILTokenHouse$Value;)V" } : Jvm.MethodName) ∈ TW := tw_in 643 (by decide +kernel) (by decide +kernel)
set_option maxRecDepth 100000 in
theorem tw_644 : Jvm.Cond.code ({ cls := "TokenHouse", name := "move", desc := "(LTokenHouse$Node;ILTokenHouse$Value;)V" } : Jvm.MethodName) prog_1_method_22_code (5 : Nat) (Option.none : Option Jvm.ClassFile.FieldType) ∈ TW := tw_in 644 rfl rfl
theorem tw_645 : Jvm.Cond.methodLink "TokenHouse" (334 : Nat) ({ cls := "TokenHouse", name := "contextBehind", desc := "(LTokenHouse$Node;I)I" } : Jvm.MethodName) ∈ TW := tw_in 645 (by decide +kernel) (by decide +kernel)
theorem tw_647 : Jvm.Cond.instanceMethod ({ cls := "TokenHouse", name := "contextBehind", desc := "(LTokenHouse$Node;I)I" } : Jvm.MethodName) ∈ TW := tw_in 647 (by decide +kernel) (by decide +kernel)
set_option maxRecDepth 100000 in
theorem tw_648 : Jvm.Cond.code ({ cls := "TokenHouse", name := "contextBehind", desc := "(LTokenHouse$Node;I)I" } : Jvm.MethodName) prog_1_method_23_code (3 : Nat) (Option.some Jvm.ClassFile.FieldType.int) ∈ TW := tw_in 648 rfl rfl
theorem tw_649 : Jvm.Cond.methodLink "TokenHouse" (338 : Nat) ({ cls := "TokenHouse$Contexts", name := "numberOf", desc := "(III)I" } : Jvm.MethodName) ∈ TW := tw_in 649 (by decide +kernel) (by decide +kernel)
theorem tw_650 : Jvm.Cond.instanceMethod ({ cls := "TokenHouse$Contexts", name := "numberOf", desc := "(III)I" } : Jvm.MethodName) ∈ TW := tw_in 650 (by decide +kernel) (by decide +kernel)
theorem tw_651 : Jvm.Cond.selects "TokenHouse$Contexts" ({ cls := "TokenHouse$Contexts", name := "numberOf", desc := "(III)I" } : Jvm.MethodName) ({ cls := "TokenHouse$Contexts", name := "numberOf", desc := "(III)I" } : Jvm.MethodName) ∈ TW := tw_in 651 (by decide +kernel) (by decide +kernel)
set_option maxRecDepth 100000 in
theorem tw_652 : Jvm.Cond.code ({ cls := "TokenHouse$Contexts", name := "numberOf", desc := "(III)I" } : Jvm.MethodName) prog_5_method_3_code (5 : Nat) (Option.some Jvm.ClassFile.FieldType.int) ∈ TW := tw_in 652 rfl rfl
theorem tw_653 : Jvm.Cond.methodLink "TokenHouse" (342 : Nat) ({ cls := "TokenHouse$Contexts", name := "nextRoundOf", desc := "(I)I" } : Jvm.MethodName) ∈ TW := tw_in 653 (by decide +kernel) (by decide +kernel)
theorem tw_654 : Jvm.Cond.instanceMethod ({ cls := "TokenHouse$Contexts", name := "nextRoundOf", desc := "(I)I" } : Jvm.MethodName) ∈ TW := tw_in 654 (by decide +kernel) (by decide +kernel)
theorem tw_655 : Jvm.Cond.selects "TokenHouse$Contexts" ({ cls := "TokenHouse$Contexts", name := "nextRoundOf", desc := "(I)I" } : Jvm.MethodName) ({ cls := "TokenHouse$Contexts", name := "nextRoundOf", desc := "(I)I" } : Jvm.MethodName) ∈ TW := tw_in 655 (by decide +kernel) (by decide +kernel)
set_option maxRecDepth 100000 in
theorem tw_656 : Jvm.Cond.code ({ cls := "TokenHouse$Contexts", name := "nextRoundOf", desc := "(I)I" } : Jvm.MethodName) prog_5_method_4_code (2 : Nat) (Option.some Jvm.ClassFile.FieldType.int) ∈ TW := tw_in 656 rfl rfl
theorem tw_657 : Jvm.Cond.methodLink "TokenHouse$Contexts" (25 : Nat) ({ cls := "TokenHouse$Contexts", name := "has", desc := "(I)Z" } : Jvm.MethodName) ∈ TW := tw_in 657 (by decide +kernel) (by decide +kernel)
theorem tw_658 : Jvm.Cond.methodLink "TokenHouse$Contexts" (29 : Nat) ({ cls := "TokenHouse$Contexts", name := "numberOf", desc := "(III)I" } : Jvm.MethodName) ∈ TW := tw_in 658 (by decide +kernel) (by decide +kernel)
theorem tw_659 : Jvm.Cond.methodLink "TokenHouse" (346 : Nat) ({ cls := "TokenHouse$Contexts", name := "firstRoundOf", desc := "(I)I" } : Jvm.MethodName) ∈ TW := tw_in 659 (by decide +kernel) (by decide +kernel)
theorem tw_660 : Jvm.Cond.instanceMethod ({ cls := "TokenHouse$Contexts", name := "firstRoundOf", desc := "(I)I" } : Jvm.MethodName) ∈ TW := tw_in 660 (by decide +kernel) (by decide +kernel)
theorem tw_661 : Jvm.Cond.selects "TokenHouse$Contexts" ({ cls := "TokenHouse$Contexts", name := "firstRoundOf", desc := "(I)I" } : Jvm.MethodName) ({ cls := "TokenHouse$Contexts", name := "firstRoundOf", desc := "(I)I" } : Jvm.MethodName) ∈ TW := tw_in 661 (by decide +kernel) (by decide +kernel)
set_option maxRecDepth 100000 in
theorem tw_662 : Jvm.Cond.code ({ cls := "TokenHouse$Contexts", name := "firstRoundOf", desc := "(I)I" } : Jvm.MethodName) prog_5_method_5_code (2 : Nat) (Option.some Jvm.ClassFile.FieldType.int) ∈ TW := tw_in 662 rfl rfl
theorem tw_663 : Jvm.Cond.methodLink "TokenHouse" (349 : Nat) ({ cls := "TokenHouse$Contexts", name := "outsideOf", desc := "(I)I" } : Jvm.MethodName) ∈ TW := tw_in 663 (by decide +kernel) (by decide +kernel)
theorem tw_664 : Jvm.Cond.instanceMethod ({ cls := "TokenHouse$Contexts", name := "outsideOf", desc := "(I)I" } : Jvm.MethodName) ∈ TW := tw_in 664 (by decide +kernel) (by decide +kernel)
theorem tw_665 : Jvm.Cond.selects "TokenHouse$Contexts" ({ cls := "TokenHouse$Contexts", name := "outsideOf", desc := "(I)I" } : Jvm.MethodName) ({ cls := "TokenHouse$Contexts", name := "outsideOf", desc := "(I)I" } : Jvm.MethodName) ∈ TW := tw_in 665 (by decide +kernel) (by decide +kernel)
set_option maxRecDepth 100000 in
theorem tw_666 : Jvm.Cond.code ({ cls := "TokenHouse$Contexts", name := "outsideOf", desc := "(I)I" } : Jvm.MethodName) prog_5_method_6_code (2 : Nat) (Option.some Jvm.ClassFile.FieldType.int) ∈ TW := tw_in 666 rfl rfl
theorem tw_667 : Jvm.Cond.methodLink "TokenHouse" (297 : Nat) ({ cls := "TokenHouse", name := "enterCall", desc := "(LTokenHouse$Node;ILTokenHouse$Value;)V" } : Jvm.MethodName) ∈ TW := tw_in 667 (by decide +kernel) (by decide +kernel)
theorem tw_669 : Jvm.Cond.instanceMethod ({ cls := "TokenHouse", name := "enterCall", desc := "(LTokenHouse$Node;ILTokenHouse$Value;)V" } : Jvm.MethodName) ∈ TW := tw_in 669 (by decide +kernel) (by decide +kernel)
set_option maxRecDepth 100000 in
theorem tw_670 : Jvm.Cond.code ({ cls := "TokenHouse", name := "enterCall", desc := "(LTokenHouse$Node;ILTokenHouse$Value;)V" } : Jvm.MethodName) prog_1_method_24_code (6 : Nat) (Option.none : Option Jvm.ClassFile.FieldType) ∈ TW := tw_in 670 rfl rfl
theorem tw_671 : Jvm.Cond.methodLink "TokenHouse" (300 : Nat) ({ cls := "TokenHouse", name := "leaveCall", desc := "(ILTokenHouse$Value;)V" } : Jvm.MethodName) ∈ TW := tw_in 671 (by decide +kernel) (by decide +kernel)
theorem tw_673 : Jvm.Cond.instanceMethod ({ cls := "TokenHouse", name := "leaveCall", desc := "(ILTokenHouse$Value;)V" } : Jvm.MethodName) ∈ TW := tw_in 673 (by decide +kernel) (by decide +kernel)
set_option maxRecDepth 100000 in
theorem tw_674 : Jvm.Cond.code ({ cls := "TokenHouse", name := "leaveCall", desc := "(ILTokenHouse$Value;)V" } : Jvm.MethodName) prog_1_method_25_code (4 : Nat) (Option.none : Option Jvm.ClassFile.FieldType) ∈ TW := tw_in 674 rfl rfl
theorem tw_675 : Jvm.Cond.methodLink "TokenHouse" (352 : Nat) ({ cls := "TokenHouse$Contexts", name := "siteOf", desc := "(I)I" } : Jvm.MethodName) ∈ TW := tw_in 675 (by decide +kernel) (by decide +kernel)
theorem tw_676 : Jvm.Cond.instanceMethod ({ cls := "TokenHouse$Contexts", name := "siteOf", desc := "(I)I" } : Jvm.MethodName) ∈ TW := tw_in 676 (by decide +kernel) (by decide +kernel)
theorem tw_677 : Jvm.Cond.selects "TokenHouse$Contexts" ({ cls := "TokenHouse$Contexts", name := "siteOf", desc := "(I)I" } : Jvm.MethodName) ({ cls := "TokenHouse$Contexts", name := "siteOf", desc := "(I)I" } : Jvm.MethodName) ∈ TW := tw_in 677 (by decide +kernel) (by decide +kernel)
set_option maxRecDepth 100000 in
theorem tw_678 : Jvm.Cond.code ({ cls := "TokenHouse$Contexts", name := "siteOf", desc := "(I)I" } : Jvm.MethodName) prog_5_method_7_code (2 : Nat) (Option.some Jvm.ClassFile.FieldType.int) ∈ TW := tw_in 678 rfl rfl
theorem tw_679 : Jvm.Cond.methodLink "TokenHouse" (303 : Nat) ({ cls := "TokenHouse", name := "makeArray", desc := "(LTokenHouse$Node;IJ)V" } : Jvm.MethodName) ∈ TW := tw_in 679 (by decide +kernel) (by decide +kernel)
theorem tw_681 : Jvm.Cond.instanceMethod ({ cls := "TokenHouse", name := "makeArray", desc := "(LTokenHouse$Node;IJ)V" } : Jvm.MethodName) ∈ TW := tw_in 681 (by decide +kernel) (by decide +kernel)
set_option maxRecDepth 100000 in
theorem tw_682 : Jvm.Cond.code ({ cls := "TokenHouse", name := "makeArray", desc := "(LTokenHouse$Node;IJ)V" } : Jvm.MethodName) prog_1_method_26_code (6 : Nat) (Option.none : Option Jvm.ClassFile.FieldType) ∈ TW := tw_in 682 rfl rfl
theorem tw_683 : Jvm.Cond.constantLong "TokenHouse" (355 : Nat) (8 : Int64) ∈ TW := tw_in 683 (by decide +kernel) (by decide +kernel)
theorem tw_684 : Jvm.Cond.constantLong "TokenHouse" (357 : Nat) (2 : Int64) ∈ TW := tw_in 684 (by decide +kernel) (by decide +kernel)
theorem tw_685 : Jvm.Cond.methodLink "TokenHouse" (359 : Nat) ({ cls := "TokenHouse$Cells", name := "makeArray", desc := "(I)I" } : Jvm.MethodName) ∈ TW := tw_in 685 (by decide +kernel) (by decide +kernel)
theorem tw_686 : Jvm.Cond.instanceMethod ({ cls := "TokenHouse$Cells", name := "makeArray", desc := "(I)I" } : Jvm.MethodName) ∈ TW := tw_in 686 (by decide +kernel) (by decide +kernel)
theorem tw_687 : Jvm.Cond.selects "TokenHouse$Cells" ({ cls := "TokenHouse$Cells", name := "makeArray", desc := "(I)I" } : Jvm.MethodName) ({ cls := "TokenHouse$Cells", name := "makeArray", desc := "(I)I" } : Jvm.MethodName) ∈ TW := tw_in 687 (by decide +kernel) (by decide +kernel)
set_option maxRecDepth 100000 in
theorem tw_688 : Jvm.Cond.code ({ cls := "TokenHouse$Cells", name := "makeArray", desc := "(I)I" } : Jvm.MethodName) prog_4_method_2_code (5 : Nat) (Option.some Jvm.ClassFile.FieldType.int) ∈ TW := tw_in 688 rfl rfl
theorem tw_689 : Jvm.Cond.instantiable "TokenHouse$Cell" (2 : Nat) ∈ TW := tw_in 689 (by decide +kernel) (by decide +kernel)
theorem tw_690 : Jvm.Cond.methodLink "TokenHouse$Cells" (29 : Nat) ({ cls := "TokenHouse$Cell", name := "<init>", desc := "(LTokenHouse$Value;)V" } : Jvm.MethodName) ∈ TW := tw_in 690 (by decide +kernel) (by decide +kernel)
theorem tw_691 : Jvm.Cond.instanceMethod ({ cls := "TokenHouse$Cell", name := "<init>", desc := "(LTokenHouse$Value;)V" } : Jvm.MethodName) ∈ TW := tw_in 691 (by decide +kernel) (by decide +kernel)
set_option maxRecDepth 100000 in
theorem tw_692 : Jvm.Cond.code ({ cls := "TokenHouse$Cell", name := "<init>", desc := "(LTokenHouse$Value;)V" } : Jvm.MethodName) prog_3_method_1_code (2 : Nat) (Option.none : Option Jvm.ClassFile.FieldType) ∈ TW := tw_in 692 rfl rfl
theorem tw_693 : Jvm.Cond.methodLink "TokenHouse$Cell" (3 : Nat) ({ cls := "java/lang/Object", name := "<init>", desc := "()V" } : Jvm.MethodName) ∈ TW := tw_in 693 (by decide +kernel) (by decide +kernel)
theorem tw_694 : Jvm.Cond.classLink "TokenHouse$Cell" (9 : Nat) "java/util/ArrayList" ∈ TW := tw_in 694 (by decide +kernel) (by decide +kernel)
theorem tw_695 : Jvm.Cond.methodLink "TokenHouse$Cell" (11 : Nat) ({ cls := "java/util/ArrayList", name := "<init>", desc := "()V" } : Jvm.MethodName) ∈ TW := tw_in 695 (by decide +kernel) (by decide +kernel)
theorem tw_696 : Jvm.Cond.fieldLink "TokenHouse$Cell" (12 : Nat) "TokenHouse$Cell" "kept" "Ljava/util/ArrayList;" ∈ TW := tw_in 696 (by decide +kernel) (by decide +kernel)
theorem tw_697 : Jvm.Cond.fieldLink "TokenHouse$Cells" (35 : Nat) "TokenHouse$Cell" "kept" "Ljava/util/ArrayList;" ∈ TW := tw_in 697 (by decide +kernel) (by decide +kernel)
theorem tw_698 : Jvm.Cond.fieldLink "TokenHouse" (211 : Nat) "TokenHouse$Cell" "kept" "Ljava/util/ArrayList;" ∈ TW := tw_in 698 (by decide +kernel) (by decide +kernel)
theorem tw_699 : Jvm.Cond.fieldLink "TokenHouse$Cell" (18 : Nat) "TokenHouse$Cell" "value" "LTokenHouse$Value;" ∈ TW := tw_in 699 (by decide +kernel) (by decide +kernel)
theorem tw_700 : Jvm.Cond.fieldLink "TokenHouse$Cells" (32 : Nat) "TokenHouse$Cell" "value" "LTokenHouse$Value;" ∈ TW := tw_in 700 (by decide +kernel) (by decide +kernel)
theorem tw_701 : Jvm.Cond.fieldLink "TokenHouse" (208 : Nat) "TokenHouse$Cell" "value" "LTokenHouse$Value;" ∈ TW := tw_in 701 (by decide +kernel) (by decide +kernel)
theorem tw_707 : Jvm.Cond.methodLink "TokenHouse" (202 : Nat) ({ cls := "TokenHouse$Cells", name := "at", desc := "(JJ)LTokenHouse$Cell;" } : Jvm.MethodName) ∈ TW := tw_in 707 (by decide +kernel) (by decide +kernel)
theorem tw_708 : Jvm.Cond.instanceMethod ({ cls := "TokenHouse$Cells", name := "at", desc := "(JJ)LTokenHouse$Cell;" } : Jvm.MethodName) ∈ TW := tw_in 708 (by decide +kernel) (by decide +kernel)
theorem tw_709 : Jvm.Cond.selects "TokenHouse$Cells" ({ cls := "TokenHouse$Cells", name := "at", desc := "(JJ)LTokenHouse$Cell;" } : Jvm.MethodName) ({ cls := "TokenHouse$Cells", name := "at", desc := "(JJ)LTokenHouse$Cell;" } : Jvm.MethodName) ∈ TW := tw_in 709 (by decide +kernel) (by decide +kernel)
set_option maxRecDepth 100000 in
theorem tw_710 : Jvm.Cond.code ({ cls := "TokenHouse$Cells", name := "at", desc := "(JJ)LTokenHouse$Cell;" } : Jvm.MethodName) prog_4_method_3_code (6 : Nat) (Option.some (Jvm.ClassFile.FieldType.object "TokenHouse$Cell")) ∈ TW := tw_in 710 rfl rfl
theorem tw_711 : Jvm.Cond.methodLink "TokenHouse" (307 : Nat) ({ cls := "TokenHouse", name := "fetch", desc := "(LTokenHouse$Node;ILTokenHouse$Cell;)V" } : Jvm.MethodName) ∈ TW := tw_in 711 (by decide +kernel) (by decide +kernel)
theorem tw_713 : Jvm.Cond.instanceMethod ({ cls := "TokenHouse", name := "fetch", desc := "(LTokenHouse$Node;ILTokenHouse$Cell;)V" } : Jvm.MethodName) ∈ TW := tw_in 713 (by decide +kernel) (by decide +kernel)
set_option maxRecDepth 100000 in
theorem tw_714 : Jvm.Cond.code ({ cls := "TokenHouse", name := "fetch", desc := "(LTokenHouse$Node;ILTokenHouse$Cell;)V" } : Jvm.MethodName) prog_1_method_27_code (4 : Nat) (Option.none : Option Jvm.ClassFile.FieldType) ∈ TW := tw_in 714 rfl rfl
theorem tw_715 : Jvm.Cond.constantLong "TokenHouse" (361 : Nat) (3 : Int64) ∈ TW := tw_in 715 (by decide +kernel) (by decide +kernel)
theorem tw_716 : Jvm.Cond.methodLink "TokenHouse" (363 : Nat) ({ cls := "TokenHouse$Cell", name := "isWritten", desc := "()Z" } : Jvm.MethodName) ∈ TW := tw_in 716 (by decide +kernel) (by decide +kernel)
theorem tw_717 : Jvm.Cond.instanceMethod ({ cls := "TokenHouse$Cell", name := "isWritten", desc := "()Z" } : Jvm.MethodName) ∈ TW := tw_in 717 (by decide +kernel) (by decide +kernel)
theorem tw_718 : Jvm.Cond.selects "TokenHouse$Cell" ({ cls := "TokenHouse$Cell", name := "isWritten", desc := "()Z" } : Jvm.MethodName) ({ cls := "TokenHouse$Cell", name := "isWritten", desc := "()Z" } : Jvm.MethodName) ∈ TW := tw_in 718 (by decide +kernel) (by decide +kernel)
set_option maxRecDepth 100000 in
theorem tw_719 : Jvm.Cond.code ({ cls := "TokenHouse$Cell", name := "isWritten", desc := "()Z" } : Jvm.MethodName) prog_3_method_2_code (1 : Nat) (Option.some Jvm.ClassFile.FieldType.boolean) ∈ TW := tw_in 719 rfl rfl
theorem tw_720 : Jvm.Cond.methodLink "TokenHouse" (311 : Nat) ({ cls := "TokenHouse", name := "store", desc := "(LTokenHouse$Node;ILTokenHouse$Cell;LTokenHouse$Value;)V" } : Jvm.MethodName) ∈ TW := tw_in 720 (by decide +kernel) (by decide +kernel)
theorem tw_722 : Jvm.Cond.instanceMethod ({ cls := "TokenHouse", name := "store", desc := "(LTokenHouse$Node;ILTokenHouse$Cell;LTokenHouse$Value;)V" } : Jvm.MethodName) ∈ TW := tw_in 722 (by decide +kernel) (by decide +kernel)
set_option maxRecDepth 100000 in
theorem tw_723 : Jvm.Cond.code ({ cls := "TokenHouse", name := "store", desc := "(LTokenHouse$Node;ILTokenHouse$Cell;LTokenHouse$Value;)V" } : Jvm.MethodName) prog_1_method_28_code (9 : Nat) (Option.none : Option Jvm.ClassFile.FieldType) ∈ TW := tw_in 723 rfl rfl
theorem tw_724 : Jvm.Cond.classLink "TokenHouse" (176 : Nat) "TokenHouse$Result" ∈ TW := tw_in 724 (by decide +kernel) (by decide +kernel)
theorem tw_725 : Jvm.Cond.instantiable "TokenHouse$Result" (2 : Nat) ∈ TW := tw_in 725 (by decide +kernel) (by decide +kernel)
theorem tw_726 : Jvm.Cond.methodLink "TokenHouse" (315 : Nat) ({ cls := "TokenHouse$Result", name := "<init>", desc := "(LTokenHouse$Value;I)V" } : Jvm.MethodName) ∈ TW := tw_in 726 (by decide +kernel) (by decide +kernel)
theorem tw_727 : Jvm.Cond.instanceMethod ({ cls := "TokenHouse$Result", name := "<init>", desc := "(LTokenHouse$Value;I)V" } : Jvm.MethodName) ∈ TW := tw_in 727 (by decide +kernel) (by decide +kernel)
set_option maxRecDepth 100000 in
theorem tw_728 : Jvm.Cond.code ({ cls := "TokenHouse$Result", name := "<init>", desc := "(LTokenHouse$Value;I)V" } : Jvm.MethodName) prog_9_method_1_code (3 : Nat) (Option.none : Option Jvm.ClassFile.FieldType) ∈ TW := tw_in 728 rfl rfl
theorem tw_729 : Jvm.Cond.methodLink "TokenHouse$Result" (1 : Nat) ({ cls := "java/lang/Object", name := "<init>", desc := "()V" } : Jvm.MethodName) ∈ TW := tw_in 729 (by decide +kernel) (by decide +kernel)
theorem tw_730 : Jvm.Cond.fieldLink "TokenHouse$Result" (7 : Nat) "TokenHouse$Result" "value" "LTokenHouse$Value;" ∈ TW := tw_in 730 (by decide +kernel) (by decide +kernel)
theorem tw_731 : Jvm.Cond.fieldLink "TokenHouse" (178 : Nat) "TokenHouse$Result" "value" "LTokenHouse$Value;" ∈ TW := tw_in 731 (by decide +kernel) (by decide +kernel)
theorem tw_732 : Jvm.Cond.fieldLink "TokenHouse$Result" (13 : Nat) "TokenHouse$Result" "context" "I" ∈ TW := tw_in 732 (by decide +kernel) (by decide +kernel)
theorem tw_733 : Jvm.Cond.fieldLink "TokenHouse" (187 : Nat) "TokenHouse$Result" "context" "I" ∈ TW := tw_in 733 (by decide +kernel) (by decide +kernel)
theorem tw_739 : Jvm.Cond.methodLink "TokenHouse" (318 : Nat) ({ cls := "TokenHouse", name := "reckoned", desc := "(LTokenHouse$Node;LTokenHouse$Value;LTokenHouse$Value;)LTokenHouse$Value;" } : Jvm.MethodName) ∈ TW := tw_in 739 (by decide +kernel) (by decide +kernel)
theorem tw_740 : Jvm.Cond.static ({ cls := "TokenHouse", name := "reckoned", desc := "(LTokenHouse$Node;LTokenHouse$Value;LTokenHouse$Value;)LTokenHouse$Value;" } : Jvm.MethodName) ∈ TW := tw_in 740 (by decide +kernel) (by decide +kernel)
set_option maxRecDepth 100000 in
theorem tw_741 : Jvm.Cond.code ({ cls := "TokenHouse", name := "reckoned", desc := "(LTokenHouse$Node;LTokenHouse$Value;LTokenHouse$Value;)LTokenHouse$Value;" } : Jvm.MethodName) prog_1_method_19_code (3 : Nat) (Option.some (Jvm.ClassFile.FieldType.object "TokenHouse$Value")) ∈ TW := tw_in 741 rfl rfl
theorem tw_742 : Jvm.Cond.methodLink "TokenHouse" (322 : Nat) ({ cls := "TokenHouse", name := "quotient", desc := "(JJ)LTokenHouse$Value;" } : Jvm.MethodName) ∈ TW := tw_in 742 (by decide +kernel) (by decide +kernel)
theorem tw_743 : Jvm.Cond.static ({ cls := "TokenHouse", name := "quotient", desc := "(JJ)LTokenHouse$Value;" } : Jvm.MethodName) ∈ TW := tw_in 743 (by decide +kernel) (by decide +kernel)
set_option maxRecDepth 100000 in
theorem tw_744 : Jvm.Cond.code ({ cls := "TokenHouse", name := "quotient", desc := "(JJ)LTokenHouse$Value;" } : Jvm.MethodName) prog_1_method_20_code (4 : Nat) (Option.some (Jvm.ClassFile.FieldType.object "TokenHouse$Value")) ∈ TW := tw_in 744 rfl rfl
theorem tw_745 : Jvm.Cond.methodLink "TokenHouseLaw" (73 : Nat) ({ cls := "TokenHouseLaw", name := "result", desc := "(LTokenHouse;II[J)I" } : Jvm.MethodName) ∈ TW := tw_in 745 (by decide +kernel) (by decide +kernel)
theorem tw_746 : Jvm.Cond.static ({ cls := "TokenHouseLaw", name := "result", desc := "(LTokenHouse;II[J)I" } : Jvm.MethodName) ∈ TW := tw_in 746 (by decide +kernel) (by decide +kernel)
theorem tw_748 : Jvm.Cond.classLink "TokenHouseLaw" (25 : Nat) "java/util/NoSuchElementException" ∈ TW := tw_in 748 (by decide +kernel) (by decide +kernel)
theorem tw_749 : Jvm.Cond.methodLink "TokenHouseLaw" (21 : Nat) ({ cls := "TokenHouse", name := "result", desc := "(II)J" } : Jvm.MethodName) ∈ TW := tw_in 749 (by decide +kernel) (by decide +kernel)
theorem tw_750 : Jvm.Cond.instanceMethod ({ cls := "TokenHouse", name := "result", desc := "(II)J" } : Jvm.MethodName) ∈ TW := tw_in 750 (by decide +kernel) (by decide +kernel)
theorem tw_751 : Jvm.Cond.selects "TokenHouse" ({ cls := "TokenHouse", name := "result", desc := "(II)J" } : Jvm.MethodName) ({ cls := "TokenHouse", name := "result", desc := "(II)J" } : Jvm.MethodName) ∈ TW := tw_in 751 (by decide +kernel) (by decide +kernel)
set_option maxRecDepth 100000 in
theorem tw_752 : Jvm.Cond.code ({ cls := "TokenHouse", name := "result", desc := "(II)J" } : Jvm.MethodName) prog_1_method_8_code (4 : Nat) (Option.some Jvm.ClassFile.FieldType.long) ∈ TW := tw_in 752 rfl rfl
theorem tw_753 : Jvm.Cond.classLink "TokenHouse" (171 : Nat) "java/util/NoSuchElementException" ∈ TW := tw_in 753 (by decide +kernel) (by decide +kernel)
theorem tw_754 : Jvm.Cond.instantiable "java/util/NoSuchElementException" (6 : Nat) ∈ TW := tw_in 754 (by decide +kernel) (by decide +kernel)
theorem tw_756 : Jvm.Cond.selects "java/util/NoSuchElementException" ({ cls := "java/lang/Throwable", name := "fillInStackTrace", desc := "(I)Ljava/lang/Throwable;" } : Jvm.MethodName) ({ cls := "java/lang/Throwable", name := "fillInStackTrace", desc := "(I)Ljava/lang/Throwable;" } : Jvm.MethodName) ∈ TW := tw_in 756 (by decide +kernel) (by decide +kernel)
theorem tw_763 : Jvm.Cond.methodLink "TokenHouse" (175 : Nat) ({ cls := "java/util/NoSuchElementException", name := "<init>", desc := "(Ljava/lang/String;)V" } : Jvm.MethodName) ∈ TW := tw_in 763 (by decide +kernel) (by decide +kernel)
theorem tw_764 : Jvm.Cond.instanceMethod ({ cls := "java/util/NoSuchElementException", name := "<init>", desc := "(Ljava/lang/String;)V" } : Jvm.MethodName) ∈ TW := tw_in 764 (by decide +kernel) (by decide +kernel)
set_option maxRecDepth 100000 in
theorem tw_765 : Jvm.Cond.code ({ cls := "java/util/NoSuchElementException", name := "<init>", desc := "(Ljava/lang/String;)V" } : Jvm.MethodName) prog_30_method_4_code (2 : Nat) (Option.none : Option Jvm.ClassFile.FieldType) ∈ TW := tw_in 765 rfl rfl
theorem tw_766 : Jvm.Cond.methodLink "java/util/NoSuchElementException" (13 : Nat) ({ cls := "java/lang/RuntimeException", name := "<init>", desc := "(Ljava/lang/String;)V" } : Jvm.MethodName) ∈ TW := tw_in 766 (by decide +kernel) (by decide +kernel)
theorem tw_769 : Jvm.Cond.methodLink "TokenHouseLaw" (76 : Nat) ({ cls := "TokenHouseLaw", name := "context", desc := "(LTokenHouse;II[J)I" } : Jvm.MethodName) ∈ TW := tw_in 769 (by decide +kernel) (by decide +kernel)
theorem tw_770 : Jvm.Cond.static ({ cls := "TokenHouseLaw", name := "context", desc := "(LTokenHouse;II[J)I" } : Jvm.MethodName) ∈ TW := tw_in 770 (by decide +kernel) (by decide +kernel)
theorem tw_772 : Jvm.Cond.methodLink "TokenHouseLaw" (27 : Nat) ({ cls := "TokenHouse", name := "context", desc := "(II)I" } : Jvm.MethodName) ∈ TW := tw_in 772 (by decide +kernel) (by decide +kernel)
theorem tw_773 : Jvm.Cond.instanceMethod ({ cls := "TokenHouse", name := "context", desc := "(II)I" } : Jvm.MethodName) ∈ TW := tw_in 773 (by decide +kernel) (by decide +kernel)
theorem tw_774 : Jvm.Cond.selects "TokenHouse" ({ cls := "TokenHouse", name := "context", desc := "(II)I" } : Jvm.MethodName) ({ cls := "TokenHouse", name := "context", desc := "(II)I" } : Jvm.MethodName) ∈ TW := tw_in 774 (by decide +kernel) (by decide +kernel)
set_option maxRecDepth 100000 in
theorem tw_775 : Jvm.Cond.code ({ cls := "TokenHouse", name := "context", desc := "(II)I" } : Jvm.MethodName) prog_1_method_9_code (3 : Nat) (Option.some Jvm.ClassFile.FieldType.int) ∈ TW := tw_in 775 rfl rfl
theorem tw_777 : Jvm.Cond.methodLink "TokenHouseLaw" (79 : Nat) ({ cls := "TokenHouseLaw", name := "cell", desc := "(LTokenHouse;III[J)I" } : Jvm.MethodName) ∈ TW := tw_in 777 (by decide +kernel) (by decide +kernel)
theorem tw_778 : Jvm.Cond.static ({ cls := "TokenHouseLaw", name := "cell", desc := "(LTokenHouse;III[J)I" } : Jvm.MethodName) ∈ TW := tw_in 778 (by decide +kernel) (by decide +kernel)
theorem tw_780 : Jvm.Cond.methodLink "TokenHouseLaw" (30 : Nat) ({ cls := "TokenHouse", name := "cell", desc := "(III)J" } : Jvm.MethodName) ∈ TW := tw_in 780 (by decide +kernel) (by decide +kernel)
theorem tw_781 : Jvm.Cond.instanceMethod ({ cls := "TokenHouse", name := "cell", desc := "(III)J" } : Jvm.MethodName) ∈ TW := tw_in 781 (by decide +kernel) (by decide +kernel)
theorem tw_782 : Jvm.Cond.selects "TokenHouse" ({ cls := "TokenHouse", name := "cell", desc := "(III)J" } : Jvm.MethodName) ({ cls := "TokenHouse", name := "cell", desc := "(III)J" } : Jvm.MethodName) ∈ TW := tw_in 782 (by decide +kernel) (by decide +kernel)
set_option maxRecDepth 100000 in
theorem tw_783 : Jvm.Cond.code ({ cls := "TokenHouse", name := "cell", desc := "(III)J" } : Jvm.MethodName) prog_1_method_10_code (5 : Nat) (Option.some Jvm.ClassFile.FieldType.long) ∈ TW := tw_in 783 rfl rfl
theorem tw_785 : Jvm.Cond.classLink "TokenHouseLaw" (35 : Nat) "TokenHouseModel" ∈ TW := tw_in 785 (by decide +kernel) (by decide +kernel)
theorem tw_786 : Jvm.Cond.instantiable "TokenHouseModel" (41 : Nat) ∈ TW := tw_in 786 (by decide +kernel) (by decide +kernel)
theorem tw_787 : Jvm.Cond.methodLink "TokenHouseLaw" (37 : Nat) ({ cls := "TokenHouseModel", name := "<init>", desc := "()V" } : Jvm.MethodName) ∈ TW := tw_in 787 (by decide +kernel) (by decide +kernel)
theorem tw_788 : Jvm.Cond.instanceMethod ({ cls := "TokenHouseModel", name := "<init>", desc := "()V" } : Jvm.MethodName) ∈ TW := tw_in 788 (by decide +kernel) (by decide +kernel)
set_option maxRecDepth 100000 in
theorem tw_789 : Jvm.Cond.code ({ cls := "TokenHouseModel", name := "<init>", desc := "()V" } : Jvm.MethodName) prog_12_method_1_code (1 : Nat) (Option.none : Option Jvm.ClassFile.FieldType) ∈ TW := tw_in 789 rfl rfl
theorem tw_790 : Jvm.Cond.methodLink "TokenHouseModel" (1 : Nat) ({ cls := "java/lang/Object", name := "<init>", desc := "()V" } : Jvm.MethodName) ∈ TW := tw_in 790 (by decide +kernel) (by decide +kernel)
theorem tw_791 : Jvm.Cond.fieldLink "TokenHouseModel" (102 : Nat) "TokenHouseModel" "thrown" "I" ∈ TW := tw_in 791 (by decide +kernel) (by decide +kernel)
theorem tw_792 : Jvm.Cond.fieldLink "TokenHouseModel" (105 : Nat) "TokenHouseModel" "nodes" "I" ∈ TW := tw_in 792 (by decide +kernel) (by decide +kernel)
theorem tw_793 : Jvm.Cond.fieldLink "TokenHouseModel" (7 : Nat) "TokenHouseModel" "op" "[I" ∈ TW := tw_in 793 (by decide +kernel) (by decide +kernel)
theorem tw_794 : Jvm.Cond.fieldLink "TokenHouseModel" (13 : Nat) "TokenHouseModel" "given" "[I" ∈ TW := tw_in 794 (by decide +kernel) (by decide +kernel)
theorem tw_795 : Jvm.Cond.fieldLink "TokenHouseModel" (16 : Nat) "TokenHouseModel" "arcs" "[I" ∈ TW := tw_in 795 (by decide +kernel) (by decide +kernel)
theorem tw_796 : Jvm.Cond.fieldLink "TokenHouseModel" (19 : Nat) "TokenHouseModel" "arcSide" "[I" ∈ TW := tw_in 796 (by decide +kernel) (by decide +kernel)
theorem tw_797 : Jvm.Cond.fieldLink "TokenHouseModel" (22 : Nat) "TokenHouseModel" "arcTo" "[I" ∈ TW := tw_in 797 (by decide +kernel) (by decide +kernel)
theorem tw_798 : Jvm.Cond.fieldLink "TokenHouseModel" (25 : Nat) "TokenHouseModel" "arcPort" "[I" ∈ TW := tw_in 798 (by decide +kernel) (by decide +kernel)
theorem tw_799 : Jvm.Cond.fieldLink "TokenHouseModel" (112 : Nat) "TokenHouseModel" "begun" "Z" ∈ TW := tw_in 799 (by decide +kernel) (by decide +kernel)
theorem tw_800 : Jvm.Cond.fieldLink "TokenHouseModel" (28 : Nat) "TokenHouseModel" "contexts" "I" ∈ TW := tw_in 800 (by decide +kernel) (by decide +kernel)
theorem tw_801 : Jvm.Cond.fieldLink "TokenHouseModel" (32 : Nat) "TokenHouseModel" "in" "[I" ∈ TW := tw_in 801 (by decide +kernel) (by decide +kernel)
theorem tw_802 : Jvm.Cond.fieldLink "TokenHouseModel" (35 : Nat) "TokenHouseModel" "site" "[I" ∈ TW := tw_in 802 (by decide +kernel) (by decide +kernel)
theorem tw_803 : Jvm.Cond.fieldLink "TokenHouseModel" (38 : Nat) "TokenHouseModel" "round" "[I" ∈ TW := tw_in 803 (by decide +kernel) (by decide +kernel)
theorem tw_804 : Jvm.Cond.fieldLink "TokenHouseModel" (194 : Nat) "TokenHouseModel" "arrays" "I" ∈ TW := tw_in 804 (by decide +kernel) (by decide +kernel)
theorem tw_805 : Jvm.Cond.fieldLink "TokenHouseModel" (41 : Nat) "TokenHouseModel" "size" "[I" ∈ TW := tw_in 805 (by decide +kernel) (by decide +kernel)
theorem tw_806 : Jvm.Cond.fieldLink "TokenHouseModel" (44 : Nat) "TokenHouseModel" "cellKind" "[I" ∈ TW := tw_in 806 (by decide +kernel) (by decide +kernel)
theorem tw_807 : Jvm.Cond.fieldLink "TokenHouseModel" (47 : Nat) "TokenHouseModel" "cellValue" "[J" ∈ TW := tw_in 807 (by decide +kernel) (by decide +kernel)
theorem tw_808 : Jvm.Cond.fieldLink "TokenHouseModel" (123 : Nat) "TokenHouseModel" "tokens" "I" ∈ TW := tw_in 808 (by decide +kernel) (by decide +kernel)
theorem tw_809 : Jvm.Cond.fieldLink "TokenHouseModel" (51 : Nat) "TokenHouseModel" "atNode" "[I" ∈ TW := tw_in 809 (by decide +kernel) (by decide +kernel)
theorem tw_810 : Jvm.Cond.fieldLink "TokenHouseModel" (54 : Nat) "TokenHouseModel" "atPort" "[I" ∈ TW := tw_in 810 (by decide +kernel) (by decide +kernel)
theorem tw_811 : Jvm.Cond.fieldLink "TokenHouseModel" (57 : Nat) "TokenHouseModel" "atContext" "[I" ∈ TW := tw_in 811 (by decide +kernel) (by decide +kernel)
theorem tw_812 : Jvm.Cond.fieldLink "TokenHouseModel" (60 : Nat) "TokenHouseModel" "atKind" "[I" ∈ TW := tw_in 812 (by decide +kernel) (by decide +kernel)
theorem tw_813 : Jvm.Cond.fieldLink "TokenHouseModel" (63 : Nat) "TokenHouseModel" "atValue" "[J" ∈ TW := tw_in 813 (by decide +kernel) (by decide +kernel)
theorem tw_814 : Jvm.Cond.fieldLink "TokenHouseModel" (133 : Nat) "TokenHouseModel" "readies" "I" ∈ TW := tw_in 814 (by decide +kernel) (by decide +kernel)
theorem tw_815 : Jvm.Cond.fieldLink "TokenHouseModel" (66 : Nat) "TokenHouseModel" "readyNode" "[I" ∈ TW := tw_in 815 (by decide +kernel) (by decide +kernel)
theorem tw_816 : Jvm.Cond.fieldLink "TokenHouseModel" (69 : Nat) "TokenHouseModel" "readyContext" "[I" ∈ TW := tw_in 816 (by decide +kernel) (by decide +kernel)
theorem tw_817 : Jvm.Cond.fieldLink "TokenHouseModel" (72 : Nat) "TokenHouseModel" "readyKind" "[I" ∈ TW := tw_in 817 (by decide +kernel) (by decide +kernel)
theorem tw_818 : Jvm.Cond.fieldLink "TokenHouseModel" (75 : Nat) "TokenHouseModel" "readyValue" "[J" ∈ TW := tw_in 818 (by decide +kernel) (by decide +kernel)
theorem tw_819 : Jvm.Cond.fieldLink "TokenHouseModel" (136 : Nat) "TokenHouseModel" "keeps" "I" ∈ TW := tw_in 819 (by decide +kernel) (by decide +kernel)
theorem tw_820 : Jvm.Cond.fieldLink "TokenHouseModel" (78 : Nat) "TokenHouseModel" "keptNode" "[I" ∈ TW := tw_in 820 (by decide +kernel) (by decide +kernel)
theorem tw_821 : Jvm.Cond.fieldLink "TokenHouseModel" (81 : Nat) "TokenHouseModel" "keptContext" "[I" ∈ TW := tw_in 821 (by decide +kernel) (by decide +kernel)
theorem tw_822 : Jvm.Cond.fieldLink "TokenHouseModel" (84 : Nat) "TokenHouseModel" "keptCell" "[I" ∈ TW := tw_in 822 (by decide +kernel) (by decide +kernel)
theorem tw_823 : Jvm.Cond.fieldLink "TokenHouseModel" (175 : Nat) "TokenHouseModel" "results" "I" ∈ TW := tw_in 823 (by decide +kernel) (by decide +kernel)
theorem tw_824 : Jvm.Cond.fieldLink "TokenHouseModel" (87 : Nat) "TokenHouseModel" "resultKind" "[I" ∈ TW := tw_in 824 (by decide +kernel) (by decide +kernel)
theorem tw_825 : Jvm.Cond.fieldLink "TokenHouseModel" (90 : Nat) "TokenHouseModel" "resultValue" "[J" ∈ TW := tw_in 825 (by decide +kernel) (by decide +kernel)
theorem tw_826 : Jvm.Cond.fieldLink "TokenHouseModel" (93 : Nat) "TokenHouseModel" "resultContext" "[I" ∈ TW := tw_in 826 (by decide +kernel) (by decide +kernel)
theorem tw_827 : Jvm.Cond.fieldLink "TokenHouseModel" (126 : Nat) "TokenHouseModel" "trap" "I" ∈ TW := tw_in 827 (by decide +kernel) (by decide +kernel)
theorem tw_828 : Jvm.Cond.fieldLink "TokenHouseModel" (210 : Nat) "TokenHouseModel" "went" "I" ∈ TW := tw_in 828 (by decide +kernel) (by decide +kernel)
theorem tw_829 : Jvm.Cond.fieldLink "TokenHouseModel" (203 : Nat) "TokenHouseModel" "wentInAll" "I" ∈ TW := tw_in 829 (by decide +kernel) (by decide +kernel)
theorem tw_830 : Jvm.Cond.fieldLink "TokenHouseModel" (96 : Nat) "TokenHouseModel" "kind" "[I" ∈ TW := tw_in 830 (by decide +kernel) (by decide +kernel)
theorem tw_831 : Jvm.Cond.fieldLink "TokenHouseModel" (99 : Nat) "TokenHouseModel" "value" "[J" ∈ TW := tw_in 831 (by decide +kernel) (by decide +kernel)
theorem tw_915 : Jvm.Cond.arrayClass Jvm.ClassFile.FieldType.long ∈ TW := tw_in 915 (by decide +kernel) (by decide +kernel)
theorem tw_916 : Jvm.Cond.methodLink "TokenHouseLaw" (44 : Nat) ({ cls := "TokenHouseModel", name := "thrown", desc := "()I" } : Jvm.MethodName) ∈ TW := tw_in 916 (by decide +kernel) (by decide +kernel)
theorem tw_917 : Jvm.Cond.instanceMethod ({ cls := "TokenHouseModel", name := "thrown", desc := "()I" } : Jvm.MethodName) ∈ TW := tw_in 917 (by decide +kernel) (by decide +kernel)
theorem tw_918 : Jvm.Cond.selects "TokenHouseModel" ({ cls := "TokenHouseModel", name := "thrown", desc := "()I" } : Jvm.MethodName) ({ cls := "TokenHouseModel", name := "thrown", desc := "()I" } : Jvm.MethodName) ∈ TW := tw_in 918 (by decide +kernel) (by decide +kernel)
set_option maxRecDepth 100000 in
theorem tw_919 : Jvm.Cond.code ({ cls := "TokenHouseModel", name := "thrown", desc := "()I" } : Jvm.MethodName) prog_12_method_2_code (1 : Nat) (Option.some Jvm.ClassFile.FieldType.int) ∈ TW := tw_in 919 rfl rfl
theorem tw_920 : Jvm.Cond.methodLink "TokenHouseLaw" (43 : Nat) ({ cls := "TokenHouseModel", name := "node", desc := "(II)I" } : Jvm.MethodName) ∈ TW := tw_in 920 (by decide +kernel) (by decide +kernel)
theorem tw_921 : Jvm.Cond.instanceMethod ({ cls := "TokenHouseModel", name := "node", desc := "(II)I" } : Jvm.MethodName) ∈ TW := tw_in 921 (by decide +kernel) (by decide +kernel)
theorem tw_922 : Jvm.Cond.selects "TokenHouseModel" ({ cls := "TokenHouseModel", name := "node", desc := "(II)I" } : Jvm.MethodName) ({ cls := "TokenHouseModel", name := "node", desc := "(II)I" } : Jvm.MethodName) ∈ TW := tw_in 922 (by decide +kernel) (by decide +kernel)
set_option maxRecDepth 100000 in
theorem tw_923 : Jvm.Cond.code ({ cls := "TokenHouseModel", name := "node", desc := "(II)I" } : Jvm.MethodName) prog_12_method_6_code (3 : Nat) (Option.some Jvm.ClassFile.FieldType.int) ∈ TW := tw_in 923 rfl rfl
theorem tw_924 : Jvm.Cond.methodLink "TokenHouseModel" (108 : Nat) ({ cls := "TokenHouseModel", name := "raise", desc := "(I)I" } : Jvm.MethodName) ∈ TW := tw_in 924 (by decide +kernel) (by decide +kernel)
theorem tw_926 : Jvm.Cond.instanceMethod ({ cls := "TokenHouseModel", name := "raise", desc := "(I)I" } : Jvm.MethodName) ∈ TW := tw_in 926 (by decide +kernel) (by decide +kernel)
set_option maxRecDepth 100000 in
theorem tw_927 : Jvm.Cond.code ({ cls := "TokenHouseModel", name := "raise", desc := "(I)I" } : Jvm.MethodName) prog_12_method_3_code (2 : Nat) (Option.some Jvm.ClassFile.FieldType.int) ∈ TW := tw_in 927 rfl rfl
theorem tw_928 : Jvm.Cond.methodLink "TokenHouseLaw" (52 : Nat) ({ cls := "TokenHouseModel", name := "arc", desc := "(IIII)Z" } : Jvm.MethodName) ∈ TW := tw_in 928 (by decide +kernel) (by decide +kernel)
theorem tw_929 : Jvm.Cond.instanceMethod ({ cls := "TokenHouseModel", name := "arc", desc := "(IIII)Z" } : Jvm.MethodName) ∈ TW := tw_in 929 (by decide +kernel) (by decide +kernel)
theorem tw_930 : Jvm.Cond.selects "TokenHouseModel" ({ cls := "TokenHouseModel", name := "arc", desc := "(IIII)Z" } : Jvm.MethodName) ({ cls := "TokenHouseModel", name := "arc", desc := "(IIII)Z" } : Jvm.MethodName) ∈ TW := tw_in 930 (by decide +kernel) (by decide +kernel)
set_option maxRecDepth 100000 in
theorem tw_931 : Jvm.Cond.code ({ cls := "TokenHouseModel", name := "arc", desc := "(IIII)Z" } : Jvm.MethodName) prog_12_method_7_code (7 : Nat) (Option.some Jvm.ClassFile.FieldType.boolean) ∈ TW := tw_in 931 rfl rfl
theorem tw_932 : Jvm.Cond.methodLink "TokenHouseModel" (116 : Nat) ({ cls := "TokenHouseModel", name := "isNode", desc := "(I)Z" } : Jvm.MethodName) ∈ TW := tw_in 932 (by decide +kernel) (by decide +kernel)
theorem tw_934 : Jvm.Cond.instanceMethod ({ cls := "TokenHouseModel", name := "isNode", desc := "(I)Z" } : Jvm.MethodName) ∈ TW := tw_in 934 (by decide +kernel) (by decide +kernel)
set_option maxRecDepth 100000 in
theorem tw_935 : Jvm.Cond.code ({ cls := "TokenHouseModel", name := "isNode", desc := "(I)Z" } : Jvm.MethodName) prog_12_method_5_code (2 : Nat) (Option.some Jvm.ClassFile.FieldType.boolean) ∈ TW := tw_in 935 rfl rfl
theorem tw_936 : Jvm.Cond.methodLink "TokenHouseModel" (120 : Nat) ({ cls := "TokenHouseModel", name := "ports", desc := "(I)I" } : Jvm.MethodName) ∈ TW := tw_in 936 (by decide +kernel) (by decide +kernel)
theorem tw_937 : Jvm.Cond.static ({ cls := "TokenHouseModel", name := "ports", desc := "(I)I" } : Jvm.MethodName) ∈ TW := tw_in 937 (by decide +kernel) (by decide +kernel)
set_option maxRecDepth 100000 in
theorem tw_938 : Jvm.Cond.code ({ cls := "TokenHouseModel", name := "ports", desc := "(I)I" } : Jvm.MethodName) prog_12_method_4_code (1 : Nat) (Option.some Jvm.ClassFile.FieldType.int) ∈ TW := tw_in 938 rfl rfl
theorem tw_939 : Jvm.Cond.methodLink "TokenHouseLaw" (59 : Nat) ({ cls := "TokenHouseModel", name := "token", desc := "(IIJ)Z" } : Jvm.MethodName) ∈ TW := tw_in 939 (by decide +kernel) (by decide +kernel)
theorem tw_940 : Jvm.Cond.instanceMethod ({ cls := "TokenHouseModel", name := "token", desc := "(IIJ)Z" } : Jvm.MethodName) ∈ TW := tw_in 940 (by decide +kernel) (by decide +kernel)
theorem tw_941 : Jvm.Cond.selects "TokenHouseModel" ({ cls := "TokenHouseModel", name := "token", desc := "(IIJ)Z" } : Jvm.MethodName) ({ cls := "TokenHouseModel", name := "token", desc := "(IIJ)Z" } : Jvm.MethodName) ∈ TW := tw_in 941 (by decide +kernel) (by decide +kernel)
set_option maxRecDepth 100000 in
theorem tw_942 : Jvm.Cond.code ({ cls := "TokenHouseModel", name := "token", desc := "(IIJ)Z" } : Jvm.MethodName) prog_12_method_11_code (5 : Nat) (Option.some Jvm.ClassFile.FieldType.boolean) ∈ TW := tw_in 942 rfl rfl
theorem tw_943 : Jvm.Cond.methodLink "TokenHouseModel" (143 : Nat) ({ cls := "TokenHouseModel", name := "comes", desc := "(IIIIJ)V" } : Jvm.MethodName) ∈ TW := tw_in 943 (by decide +kernel) (by decide +kernel)
theorem tw_945 : Jvm.Cond.instanceMethod ({ cls := "TokenHouseModel", name := "comes", desc := "(IIIIJ)V" } : Jvm.MethodName) ∈ TW := tw_in 945 (by decide +kernel) (by decide +kernel)
set_option maxRecDepth 100000 in
theorem tw_946 : Jvm.Cond.code ({ cls := "TokenHouseModel", name := "comes", desc := "(IIIIJ)V" } : Jvm.MethodName) prog_12_method_9_code (7 : Nat) (Option.none : Option Jvm.ClassFile.FieldType) ∈ TW := tw_in 946 rfl rfl
theorem tw_947 : Jvm.Cond.methodLink "TokenHouseModel" (129 : Nat) ({ cls := "TokenHouseModel", name := "waits", desc := "(III)I" } : Jvm.MethodName) ∈ TW := tw_in 947 (by decide +kernel) (by decide +kernel)
theorem tw_949 : Jvm.Cond.instanceMethod ({ cls := "TokenHouseModel", name := "waits", desc := "(III)I" } : Jvm.MethodName) ∈ TW := tw_in 949 (by decide +kernel) (by decide +kernel)
set_option maxRecDepth 100000 in
theorem tw_950 : Jvm.Cond.code ({ cls := "TokenHouseModel", name := "waits", desc := "(III)I" } : Jvm.MethodName) prog_12_method_8_code (5 : Nat) (Option.some Jvm.ClassFile.FieldType.int) ∈ TW := tw_in 950 rfl rfl
theorem tw_951 : Jvm.Cond.methodLink "TokenHouseModel" (139 : Nat) ({ cls := "TokenHouseModel", name := "gather", desc := "(II)V" } : Jvm.MethodName) ∈ TW := tw_in 951 (by decide +kernel) (by decide +kernel)
theorem tw_953 : Jvm.Cond.instanceMethod ({ cls := "TokenHouseModel", name := "gather", desc := "(II)V" } : Jvm.MethodName) ∈ TW := tw_in 953 (by decide +kernel) (by decide +kernel)
set_option maxRecDepth 100000 in
theorem tw_954 : Jvm.Cond.code ({ cls := "TokenHouseModel", name := "gather", desc := "(II)V" } : Jvm.MethodName) prog_12_method_10_code (7 : Nat) (Option.none : Option Jvm.ClassFile.FieldType) ∈ TW := tw_in 954 rfl rfl
theorem tw_955 : Jvm.Cond.methodLink "TokenHouseLaw" (63 : Nat) ({ cls := "TokenHouseModel", name := "run", desc := "(IJ)I" } : Jvm.MethodName) ∈ TW := tw_in 955 (by decide +kernel) (by decide +kernel)
theorem tw_956 : Jvm.Cond.instanceMethod ({ cls := "TokenHouseModel", name := "run", desc := "(IJ)I" } : Jvm.MethodName) ∈ TW := tw_in 956 (by decide +kernel) (by decide +kernel)
theorem tw_957 : Jvm.Cond.selects "TokenHouseModel" ({ cls := "TokenHouseModel", name := "run", desc := "(IJ)I" } : Jvm.MethodName) ({ cls := "TokenHouseModel", name := "run", desc := "(IJ)I" } : Jvm.MethodName) ∈ TW := tw_in 957 (by decide +kernel) (by decide +kernel)
set_option maxRecDepth 100000 in
theorem tw_958 : Jvm.Cond.code ({ cls := "TokenHouseModel", name := "run", desc := "(IJ)I" } : Jvm.MethodName) prog_12_method_27_code (8 : Nat) (Option.some Jvm.ClassFile.FieldType.int) ∈ TW := tw_in 958 rfl rfl
theorem tw_959 : Jvm.Cond.constantLong "TokenHouseModel" (206 : Nat) (25214903917 : Int64) ∈ TW := tw_in 959 (by decide +kernel) (by decide +kernel)
theorem tw_960 : Jvm.Cond.constantLong "TokenHouseModel" (208 : Nat) (11 : Int64) ∈ TW := tw_in 960 (by decide +kernel) (by decide +kernel)
theorem tw_961 : Jvm.Cond.methodLink "TokenHouseModel" (213 : Nat) ({ cls := "TokenHouseModel", name := "go", desc := "(I)V" } : Jvm.MethodName) ∈ TW := tw_in 961 (by decide +kernel) (by decide +kernel)
theorem tw_963 : Jvm.Cond.instanceMethod ({ cls := "TokenHouseModel", name := "go", desc := "(I)V" } : Jvm.MethodName) ∈ TW := tw_in 963 (by decide +kernel) (by decide +kernel)
set_option maxRecDepth 100000 in
theorem tw_964 : Jvm.Cond.code ({ cls := "TokenHouseModel", name := "go", desc := "(I)V" } : Jvm.MethodName) prog_12_method_17_code (5 : Nat) (Option.none : Option Jvm.ClassFile.FieldType) ∈ TW := tw_in 964 rfl rfl
theorem tw_965 : Jvm.Cond.methodLink "TokenHouseModel" (150 : Nat) ({ cls := "TokenHouseModel", name := "take", desc := "(I)V" } : Jvm.MethodName) ∈ TW := tw_in 965 (by decide +kernel) (by decide +kernel)
theorem tw_967 : Jvm.Cond.instanceMethod ({ cls := "TokenHouseModel", name := "take", desc := "(I)V" } : Jvm.MethodName) ∈ TW := tw_in 967 (by decide +kernel) (by decide +kernel)
set_option maxRecDepth 100000 in
theorem tw_968 : Jvm.Cond.code ({ cls := "TokenHouseModel", name := "take", desc := "(I)V" } : Jvm.MethodName) prog_12_method_16_code (4 : Nat) (Option.none : Option Jvm.ClassFile.FieldType) ∈ TW := tw_in 968 rfl rfl
theorem tw_969 : Jvm.Cond.methodLink "TokenHouseModel" (147 : Nat) ({ cls := "TokenHouseModel", name := "send", desc := "(IIIIJ)V" } : Jvm.MethodName) ∈ TW := tw_in 969 (by decide +kernel) (by decide +kernel)
theorem tw_971 : Jvm.Cond.instanceMethod ({ cls := "TokenHouseModel", name := "send", desc := "(IIIIJ)V" } : Jvm.MethodName) ∈ TW := tw_in 971 (by decide +kernel) (by decide +kernel)
set_option maxRecDepth 100000 in
theorem tw_972 : Jvm.Cond.code ({ cls := "TokenHouseModel", name := "send", desc := "(IIIIJ)V" } : Jvm.MethodName) prog_12_method_12_code (8 : Nat) (Option.none : Option Jvm.ClassFile.FieldType) ∈ TW := tw_in 972 rfl rfl
theorem tw_973 : Jvm.Cond.methodLink "TokenHouseModel" (154 : Nat) ({ cls := "TokenHouseModel", name := "reckon", desc := "(II)V" } : Jvm.MethodName) ∈ TW := tw_in 973 (by decide +kernel) (by decide +kernel)
theorem tw_975 : Jvm.Cond.instanceMethod ({ cls := "TokenHouseModel", name := "reckon", desc := "(II)V" } : Jvm.MethodName) ∈ TW := tw_in 975 (by decide +kernel) (by decide +kernel)
set_option maxRecDepth 100000 in
theorem tw_976 : Jvm.Cond.code ({ cls := "TokenHouseModel", name := "reckon", desc := "(II)V" } : Jvm.MethodName) prog_12_method_19_code (10 : Nat) (Option.none : Option Jvm.ClassFile.FieldType) ∈ TW := tw_in 976 rfl rfl
theorem tw_977 : Jvm.Cond.methodLink "TokenHouseModel" (178 : Nat) ({ cls := "TokenHouseModel", name := "errorOf", desc := "(I)I" } : Jvm.MethodName) ∈ TW := tw_in 977 (by decide +kernel) (by decide +kernel)
theorem tw_979 : Jvm.Cond.instanceMethod ({ cls := "TokenHouseModel", name := "errorOf", desc := "(I)I" } : Jvm.MethodName) ∈ TW := tw_in 979 (by decide +kernel) (by decide +kernel)
set_option maxRecDepth 100000 in
theorem tw_980 : Jvm.Cond.code ({ cls := "TokenHouseModel", name := "errorOf", desc := "(I)I" } : Jvm.MethodName) prog_12_method_15_code (4 : Nat) (Option.some Jvm.ClassFile.FieldType.int) ∈ TW := tw_in 980 rfl rfl
theorem tw_981 : Jvm.Cond.methodLink "TokenHouseModel" (181 : Nat) ({ cls := "TokenHouseModel", name := "sendError", desc := "(III)V" } : Jvm.MethodName) ∈ TW := tw_in 981 (by decide +kernel) (by decide +kernel)
theorem tw_983 : Jvm.Cond.instanceMethod ({ cls := "TokenHouseModel", name := "sendError", desc := "(III)V" } : Jvm.MethodName) ∈ TW := tw_in 983 (by decide +kernel) (by decide +kernel)
set_option maxRecDepth 100000 in
theorem tw_984 : Jvm.Cond.code ({ cls := "TokenHouseModel", name := "sendError", desc := "(III)V" } : Jvm.MethodName) prog_12_method_14_code (4 : Nat) (Option.none : Option Jvm.ClassFile.FieldType) ∈ TW := tw_in 984 rfl rfl
theorem tw_985 : Jvm.Cond.constantLong "TokenHouseModel" (185 : Nat) (-1 : Int64) ∈ TW := tw_in 985 (by decide +kernel) (by decide +kernel)
theorem tw_986 : Jvm.Cond.methodLink "TokenHouseModel" (157 : Nat) ({ cls := "TokenHouseModel", name := "part", desc := "(II)V" } : Jvm.MethodName) ∈ TW := tw_in 986 (by decide +kernel) (by decide +kernel)
theorem tw_988 : Jvm.Cond.instanceMethod ({ cls := "TokenHouseModel", name := "part", desc := "(II)V" } : Jvm.MethodName) ∈ TW := tw_in 988 (by decide +kernel) (by decide +kernel)
set_option maxRecDepth 100000 in
theorem tw_989 : Jvm.Cond.code ({ cls := "TokenHouseModel", name := "part", desc := "(II)V" } : Jvm.MethodName) prog_12_method_20_code (5 : Nat) (Option.none : Option Jvm.ClassFile.FieldType) ∈ TW := tw_in 989 rfl rfl
theorem tw_990 : Jvm.Cond.constantLong "TokenHouseModel" (187 : Nat) (4 : Int64) ∈ TW := tw_in 990 (by decide +kernel) (by decide +kernel)
theorem tw_991 : Jvm.Cond.methodLink "TokenHouseModel" (160 : Nat) ({ cls := "TokenHouseModel", name := "turn", desc := "(II)V" } : Jvm.MethodName) ∈ TW := tw_in 991 (by decide +kernel) (by decide +kernel)
theorem tw_993 : Jvm.Cond.instanceMethod ({ cls := "TokenHouseModel", name := "turn", desc := "(II)V" } : Jvm.MethodName) ∈ TW := tw_in 993 (by decide +kernel) (by decide +kernel)
set_option maxRecDepth 100000 in
theorem tw_994 : Jvm.Cond.code ({ cls := "TokenHouseModel", name := "turn", desc := "(II)V" } : Jvm.MethodName) prog_12_method_21_code (5 : Nat) (Option.none : Option Jvm.ClassFile.FieldType) ∈ TW := tw_in 994 rfl rfl
theorem tw_995 : Jvm.Cond.methodLink "TokenHouseModel" (189 : Nat) ({ cls := "TokenHouseModel", name := "contextOf", desc := "(III)I" } : Jvm.MethodName) ∈ TW := tw_in 995 (by decide +kernel) (by decide +kernel)
theorem tw_997 : Jvm.Cond.instanceMethod ({ cls := "TokenHouseModel", name := "contextOf", desc := "(III)I" } : Jvm.MethodName) ∈ TW := tw_in 997 (by decide +kernel) (by decide +kernel)
set_option maxRecDepth 100000 in
theorem tw_998 : Jvm.Cond.code ({ cls := "TokenHouseModel", name := "contextOf", desc := "(III)I" } : Jvm.MethodName) prog_12_method_13_code (5 : Nat) (Option.some Jvm.ClassFile.FieldType.int) ∈ TW := tw_in 998 rfl rfl
theorem tw_999 : Jvm.Cond.methodLink "TokenHouseModel" (163 : Nat) ({ cls := "TokenHouseModel", name := "callOrBack", desc := "(II)V" } : Jvm.MethodName) ∈ TW := tw_in 999 (by decide +kernel) (by decide +kernel)
theorem tw_1001 : Jvm.Cond.instanceMethod ({ cls := "TokenHouseModel", name := "callOrBack", desc := "(II)V" } : Jvm.MethodName) ∈ TW := tw_in 1001 (by decide +kernel) (by decide +kernel)
set_option maxRecDepth 100000 in
theorem tw_1002 : Jvm.Cond.code ({ cls := "TokenHouseModel", name := "callOrBack", desc := "(II)V" } : Jvm.MethodName) prog_12_method_22_code (4 : Nat) (Option.none : Option Jvm.ClassFile.FieldType) ∈ TW := tw_in 1002 rfl rfl
theorem tw_1003 : Jvm.Cond.methodLink "TokenHouseModel" (166 : Nat) ({ cls := "TokenHouseModel", name := "make", desc := "(II)V" } : Jvm.MethodName) ∈ TW := tw_in 1003 (by decide +kernel) (by decide +kernel)
theorem tw_1005 : Jvm.Cond.instanceMethod ({ cls := "TokenHouseModel", name := "make", desc := "(II)V" } : Jvm.MethodName) ∈ TW := tw_in 1005 (by decide +kernel) (by decide +kernel)
set_option maxRecDepth 100000 in
theorem tw_1006 : Jvm.Cond.code ({ cls := "TokenHouseModel", name := "make", desc := "(II)V" } : Jvm.MethodName) prog_12_method_23_code (5 : Nat) (Option.none : Option Jvm.ClassFile.FieldType) ∈ TW := tw_in 1006 rfl rfl
theorem tw_1007 : Jvm.Cond.constantLong "TokenHouseModel" (192 : Nat) (8 : Int64) ∈ TW := tw_in 1007 (by decide +kernel) (by decide +kernel)
theorem tw_1008 : Jvm.Cond.methodLink "TokenHouseModel" (169 : Nat) ({ cls := "TokenHouseModel", name := "keepResult", desc := "(I)V" } : Jvm.MethodName) ∈ TW := tw_in 1008 (by decide +kernel) (by decide +kernel)
theorem tw_1010 : Jvm.Cond.instanceMethod ({ cls := "TokenHouseModel", name := "keepResult", desc := "(I)V" } : Jvm.MethodName) ∈ TW := tw_in 1010 (by decide +kernel) (by decide +kernel)
set_option maxRecDepth 100000 in
theorem tw_1011 : Jvm.Cond.code ({ cls := "TokenHouseModel", name := "keepResult", desc := "(I)V" } : Jvm.MethodName) prog_12_method_18_code (2 : Nat) (Option.none : Option Jvm.ClassFile.FieldType) ∈ TW := tw_in 1011 rfl rfl
theorem tw_1012 : Jvm.Cond.methodLink "TokenHouseModel" (172 : Nat) ({ cls := "TokenHouseModel", name := "atCell", desc := "(II)V" } : Jvm.MethodName) ∈ TW := tw_in 1012 (by decide +kernel) (by decide +kernel)
theorem tw_1014 : Jvm.Cond.instanceMethod ({ cls := "TokenHouseModel", name := "atCell", desc := "(II)V" } : Jvm.MethodName) ∈ TW := tw_in 1014 (by decide +kernel) (by decide +kernel)
set_option maxRecDepth 100000 in
theorem tw_1015 : Jvm.Cond.code ({ cls := "TokenHouseModel", name := "atCell", desc := "(II)V" } : Jvm.MethodName) prog_12_method_24_code (5 : Nat) (Option.none : Option Jvm.ClassFile.FieldType) ∈ TW := tw_in 1015 rfl rfl
theorem tw_1016 : Jvm.Cond.methodLink "TokenHouseModel" (197 : Nat) ({ cls := "TokenHouseModel", name := "store", desc := "(III)V" } : Jvm.MethodName) ∈ TW := tw_in 1016 (by decide +kernel) (by decide +kernel)
theorem tw_1018 : Jvm.Cond.instanceMethod ({ cls := "TokenHouseModel", name := "store", desc := "(III)V" } : Jvm.MethodName) ∈ TW := tw_in 1018 (by decide +kernel) (by decide +kernel)
set_option maxRecDepth 100000 in
theorem tw_1019 : Jvm.Cond.code ({ cls := "TokenHouseModel", name := "store", desc := "(III)V" } : Jvm.MethodName) prog_12_method_25_code (5 : Nat) (Option.none : Option Jvm.ClassFile.FieldType) ∈ TW := tw_in 1019 rfl rfl
theorem tw_1020 : Jvm.Cond.methodLink "TokenHouseModel" (200 : Nat) ({ cls := "TokenHouseModel", name := "serve", desc := "(I)V" } : Jvm.MethodName) ∈ TW := tw_in 1020 (by decide +kernel) (by decide +kernel)
theorem tw_1022 : Jvm.Cond.instanceMethod ({ cls := "TokenHouseModel", name := "serve", desc := "(I)V" } : Jvm.MethodName) ∈ TW := tw_in 1022 (by decide +kernel) (by decide +kernel)
set_option maxRecDepth 100000 in
theorem tw_1023 : Jvm.Cond.code ({ cls := "TokenHouseModel", name := "serve", desc := "(I)V" } : Jvm.MethodName) prog_12_method_26_code (6 : Nat) (Option.none : Option Jvm.ClassFile.FieldType) ∈ TW := tw_in 1023 rfl rfl
theorem tw_1024 : Jvm.Cond.methodLink "TokenHouseLaw" (68 : Nat) ({ cls := "TokenHouseModel", name := "clear", desc := "(Z)V" } : Jvm.MethodName) ∈ TW := tw_in 1024 (by decide +kernel) (by decide +kernel)
theorem tw_1025 : Jvm.Cond.instanceMethod ({ cls := "TokenHouseModel", name := "clear", desc := "(Z)V" } : Jvm.MethodName) ∈ TW := tw_in 1025 (by decide +kernel) (by decide +kernel)
theorem tw_1026 : Jvm.Cond.selects "TokenHouseModel" ({ cls := "TokenHouseModel", name := "clear", desc := "(Z)V" } : Jvm.MethodName) ({ cls := "TokenHouseModel", name := "clear", desc := "(Z)V" } : Jvm.MethodName) ∈ TW := tw_in 1026 (by decide +kernel) (by decide +kernel)
set_option maxRecDepth 100000 in
theorem tw_1027 : Jvm.Cond.code ({ cls := "TokenHouseModel", name := "clear", desc := "(Z)V" } : Jvm.MethodName) prog_12_method_28_code (2 : Nat) (Option.none : Option Jvm.ClassFile.FieldType) ∈ TW := tw_in 1027 rfl rfl
theorem tw_1028 : Jvm.Cond.methodLink "TokenHouseLaw" (72 : Nat) ({ cls := "TokenHouseModel", name := "ready", desc := "(II)I" } : Jvm.MethodName) ∈ TW := tw_in 1028 (by decide +kernel) (by decide +kernel)
theorem tw_1029 : Jvm.Cond.instanceMethod ({ cls := "TokenHouseModel", name := "ready", desc := "(II)I" } : Jvm.MethodName) ∈ TW := tw_in 1029 (by decide +kernel) (by decide +kernel)
theorem tw_1030 : Jvm.Cond.selects "TokenHouseModel" ({ cls := "TokenHouseModel", name := "ready", desc := "(II)I" } : Jvm.MethodName) ({ cls := "TokenHouseModel", name := "ready", desc := "(II)I" } : Jvm.MethodName) ∈ TW := tw_in 1030 (by decide +kernel) (by decide +kernel)
set_option maxRecDepth 100000 in
theorem tw_1031 : Jvm.Cond.code ({ cls := "TokenHouseModel", name := "ready", desc := "(II)I" } : Jvm.MethodName) prog_12_method_29_code (3 : Nat) (Option.some Jvm.ClassFile.FieldType.int) ∈ TW := tw_in 1031 rfl rfl
theorem tw_1032 : Jvm.Cond.methodLink "TokenHouseLaw" (75 : Nat) ({ cls := "TokenHouseModel", name := "result", desc := "(II)J" } : Jvm.MethodName) ∈ TW := tw_in 1032 (by decide +kernel) (by decide +kernel)
theorem tw_1033 : Jvm.Cond.instanceMethod ({ cls := "TokenHouseModel", name := "result", desc := "(II)J" } : Jvm.MethodName) ∈ TW := tw_in 1033 (by decide +kernel) (by decide +kernel)
theorem tw_1034 : Jvm.Cond.selects "TokenHouseModel" ({ cls := "TokenHouseModel", name := "result", desc := "(II)J" } : Jvm.MethodName) ({ cls := "TokenHouseModel", name := "result", desc := "(II)J" } : Jvm.MethodName) ∈ TW := tw_in 1034 (by decide +kernel) (by decide +kernel)
set_option maxRecDepth 100000 in
theorem tw_1035 : Jvm.Cond.code ({ cls := "TokenHouseModel", name := "result", desc := "(II)J" } : Jvm.MethodName) prog_12_method_30_code (3 : Nat) (Option.some Jvm.ClassFile.FieldType.long) ∈ TW := tw_in 1035 rfl rfl
theorem tw_1036 : Jvm.Cond.methodLink "TokenHouseLaw" (78 : Nat) ({ cls := "TokenHouseModel", name := "context", desc := "(II)I" } : Jvm.MethodName) ∈ TW := tw_in 1036 (by decide +kernel) (by decide +kernel)
theorem tw_1037 : Jvm.Cond.instanceMethod ({ cls := "TokenHouseModel", name := "context", desc := "(II)I" } : Jvm.MethodName) ∈ TW := tw_in 1037 (by decide +kernel) (by decide +kernel)
theorem tw_1038 : Jvm.Cond.selects "TokenHouseModel" ({ cls := "TokenHouseModel", name := "context", desc := "(II)I" } : Jvm.MethodName) ({ cls := "TokenHouseModel", name := "context", desc := "(II)I" } : Jvm.MethodName) ∈ TW := tw_in 1038 (by decide +kernel) (by decide +kernel)
set_option maxRecDepth 100000 in
theorem tw_1039 : Jvm.Cond.code ({ cls := "TokenHouseModel", name := "context", desc := "(II)I" } : Jvm.MethodName) prog_12_method_31_code (3 : Nat) (Option.some Jvm.ClassFile.FieldType.int) ∈ TW := tw_in 1039 rfl rfl
theorem tw_1040 : Jvm.Cond.methodLink "TokenHouseLaw" (82 : Nat) ({ cls := "TokenHouseModel", name := "cell", desc := "(III)J" } : Jvm.MethodName) ∈ TW := tw_in 1040 (by decide +kernel) (by decide +kernel)
theorem tw_1041 : Jvm.Cond.instanceMethod ({ cls := "TokenHouseModel", name := "cell", desc := "(III)J" } : Jvm.MethodName) ∈ TW := tw_in 1041 (by decide +kernel) (by decide +kernel)
theorem tw_1042 : Jvm.Cond.selects "TokenHouseModel" ({ cls := "TokenHouseModel", name := "cell", desc := "(III)J" } : Jvm.MethodName) ({ cls := "TokenHouseModel", name := "cell", desc := "(III)J" } : Jvm.MethodName) ∈ TW := tw_in 1042 (by decide +kernel) (by decide +kernel)
set_option maxRecDepth 100000 in
theorem tw_1043 : Jvm.Cond.code ({ cls := "TokenHouseModel", name := "cell", desc := "(III)J" } : Jvm.MethodName) prog_12_method_32_code (7 : Nat) (Option.some Jvm.ClassFile.FieldType.long) ∈ TW := tw_in 1043 rfl rfl
theorem tw_1044 : Jvm.Cond.methodLink "TokenHouseLaw" (86 : Nat) ({ cls := "TokenHouseModel", name := "waiting", desc := "(II)I" } : Jvm.MethodName) ∈ TW := tw_in 1044 (by decide +kernel) (by decide +kernel)
theorem tw_1045 : Jvm.Cond.instanceMethod ({ cls := "TokenHouseModel", name := "waiting", desc := "(II)I" } : Jvm.MethodName) ∈ TW := tw_in 1045 (by decide +kernel) (by decide +kernel)
theorem tw_1046 : Jvm.Cond.selects "TokenHouseModel" ({ cls := "TokenHouseModel", name := "waiting", desc := "(II)I" } : Jvm.MethodName) ({ cls := "TokenHouseModel", name := "waiting", desc := "(II)I" } : Jvm.MethodName) ∈ TW := tw_in 1046 (by decide +kernel) (by decide +kernel)
set_option maxRecDepth 100000 in
theorem tw_1047 : Jvm.Cond.code ({ cls := "TokenHouseModel", name := "waiting", desc := "(II)I" } : Jvm.MethodName) prog_12_method_33_code (5 : Nat) (Option.some Jvm.ClassFile.FieldType.int) ∈ TW := tw_in 1047 rfl rfl
theorem tw_1048 : Jvm.Cond.methodLink "TokenHouseLaw" (91 : Nat) ({ cls := "TokenHouseModel", name := "total", desc := "(I)I" } : Jvm.MethodName) ∈ TW := tw_in 1048 (by decide +kernel) (by decide +kernel)
theorem tw_1049 : Jvm.Cond.instanceMethod ({ cls := "TokenHouseModel", name := "total", desc := "(I)I" } : Jvm.MethodName) ∈ TW := tw_in 1049 (by decide +kernel) (by decide +kernel)
theorem tw_1050 : Jvm.Cond.selects "TokenHouseModel" ({ cls := "TokenHouseModel", name := "total", desc := "(I)I" } : Jvm.MethodName) ({ cls := "TokenHouseModel", name := "total", desc := "(I)I" } : Jvm.MethodName) ∈ TW := tw_in 1050 (by decide +kernel) (by decide +kernel)
set_option maxRecDepth 100000 in
theorem tw_1051 : Jvm.Cond.code ({ cls := "TokenHouseModel", name := "total", desc := "(I)I" } : Jvm.MethodName) prog_12_method_34_code (2 : Nat) (Option.some Jvm.ClassFile.FieldType.int) ∈ TW := tw_in 1051 rfl rfl
theorem tw_1052 : Jvm.Cond.constantLong "TokenHouseLaw" (53 : Nat) (4294967295 : Int64) ∈ TW := tw_in 1052 (by decide +kernel) (by decide +kernel)
theorem tw_1059 : Jvm.Cond.selects "[Ljava/lang/Object;" ({ cls := "java/lang/Object", name := "getClass", desc := "()Ljava/lang/Class;" } : Jvm.MethodName) ({ cls := "java/lang/Object", name := "getClass", desc := "()Ljava/lang/Class;" } : Jvm.MethodName) ∈ TW := tw_in 1059 (by decide +kernel) (by decide +kernel)
theorem inJx4a65ca : ∀ w ∈ u_ws RJx4a65c TJx4a65c 3, w ∈ lw_tbl := by decide +kernel
theorem inJx4a65cb : (u_ws RJx4a65c TJx4a65c 3).all goodWord = true := by decide +kernel
theorem inJx4a65c : ∀ w ∈ u_ws RJx4a65c TJx4a65c 3, w ∈ TW := fun w h => List.mem_filter.mpr ⟨inJx4a65ca w h, List.all_eq_true.mp inJx4a65cb w h⟩
theorem inX0a : ∀ w ∈ u_ws RX0 TX0 3, w ∈ lw_tbl := by decide +kernel
theorem inX0b : (u_ws RX0 TX0 3).all goodWord = true := by decide +kernel
theorem inX0 : ∀ w ∈ u_ws RX0 TX0 3, w ∈ TW := fun w h => List.mem_filter.mpr ⟨inX0a w h, List.all_eq_true.mp inX0b w h⟩
theorem inX1a : ∀ w ∈ u_ws RX1 TX1 2, w ∈ lw_tbl := by decide +kernel
theorem inX1b : (u_ws RX1 TX1 2).all goodWord = true := by decide +kernel
theorem inX1 : ∀ w ∈ u_ws RX1 TX1 2, w ∈ TW := fun w h => List.mem_filter.mpr ⟨inX1a w h, List.all_eq_true.mp inX1b w h⟩
theorem inX2a : ∀ w ∈ u_ws RX2 TX2 4, w ∈ lw_tbl := by decide +kernel
theorem inX2b : (u_ws RX2 TX2 4).all goodWord = true := by decide +kernel
theorem inX2 : ∀ w ∈ u_ws RX2 TX2 4, w ∈ TW := fun w h => List.mem_filter.mpr ⟨inX2a w h, List.all_eq_true.mp inX2b w h⟩
theorem inX3a : ∀ w ∈ u_ws RX3 TX3 4, w ∈ lw_tbl := by decide +kernel
theorem inX3b : (u_ws RX3 TX3 4).all goodWord = true := by decide +kernel
theorem inX3 : ∀ w ∈ u_ws RX3 TX3 4, w ∈ TW := fun w h => List.mem_filter.mpr ⟨inX3a w h, List.all_eq_true.mp inX3b w h⟩
theorem inX4a : ∀ w ∈ u_ws RX4 TX4 5, w ∈ lw_tbl := by decide +kernel
theorem inX4b : (u_ws RX4 TX4 5).all goodWord = true := by decide +kernel
theorem inX4 : ∀ w ∈ u_ws RX4 TX4 5, w ∈ TW := fun w h => List.mem_filter.mpr ⟨inX4a w h, List.all_eq_true.mp inX4b w h⟩
theorem inX5a : ∀ w ∈ u_ws RX5 TX5 3, w ∈ lw_tbl := by decide +kernel
theorem inX5b : (u_ws RX5 TX5 3).all goodWord = true := by decide +kernel
theorem inX5 : ∀ w ∈ u_ws RX5 TX5 3, w ∈ TW := fun w h => List.mem_filter.mpr ⟨inX5a w h, List.all_eq_true.mp inX5b w h⟩
theorem inX6a : ∀ w ∈ u_ws RX6 TX6 8, w ∈ lw_tbl := by decide +kernel
theorem inX6b : (u_ws RX6 TX6 8).all goodWord = true := by decide +kernel
theorem inX6 : ∀ w ∈ u_ws RX6 TX6 8, w ∈ TW := fun w h => List.mem_filter.mpr ⟨inX6a w h, List.all_eq_true.mp inX6b w h⟩
theorem inX7a : ∀ w ∈ u_ws RX7 TX7 2, w ∈ lw_tbl := by decide +kernel
theorem inX7b : (u_ws RX7 TX7 2).all goodWord = true := by decide +kernel
theorem inX7 : ∀ w ∈ u_ws RX7 TX7 2, w ∈ TW := fun w h => List.mem_filter.mpr ⟨inX7a w h, List.all_eq_true.mp inX7b w h⟩
theorem inX8a : ∀ w ∈ u_ws RX8 TX8 2, w ∈ lw_tbl := by decide +kernel
theorem inX8b : (u_ws RX8 TX8 2).all goodWord = true := by decide +kernel
theorem inX8 : ∀ w ∈ u_ws RX8 TX8 2, w ∈ TW := fun w h => List.mem_filter.mpr ⟨inX8a w h, List.all_eq_true.mp inX8b w h⟩
theorem inX9a : ∀ w ∈ u_ws RX9 TX9 13, w ∈ lw_tbl := by decide +kernel
theorem inX9b : (u_ws RX9 TX9 13).all goodWord = true := by decide +kernel
theorem inX9 : ∀ w ∈ u_ws RX9 TX9 13, w ∈ TW := fun w h => List.mem_filter.mpr ⟨inX9a w h, List.all_eq_true.mp inX9b w h⟩
theorem inX10a : ∀ w ∈ u_ws RX10 TX10 41, w ∈ lw_tbl := by decide +kernel
theorem inX10b : (u_ws RX10 TX10 41).all goodWord = true := by decide +kernel
theorem inX10 : ∀ w ∈ u_ws RX10 TX10 41, w ∈ TW := fun w h => List.mem_filter.mpr ⟨inX10a w h, List.all_eq_true.mp inX10b w h⟩
end
section
theorem dX0_init_0 : decode cX0_init 0 = .ok (.aload_n 0, 1) := by decide +kernel
theorem dX0_init_1 : decode cX0_init 1 = .ok (.invokespecial 1, 3) := by decide +kernel
theorem dX0_init_4 : decode cX0_init 4 = .ok (.aload_n 0, 1) := by decide +kernel
theorem dX0_init_5 : decode cX0_init 5 = .ok (.iload_n 1, 1) := by decide +kernel
theorem dX0_init_6 : decode cX0_init 6 = .ok (.putfield 7, 3) := by decide +kernel
theorem dX0_init_9 : decode cX0_init 9 = .ok (.aload_n 0, 1) := by decide +kernel
theorem dX0_init_10 : decode cX0_init 10 = .ok (.aload_n 2, 1) := by decide +kernel
theorem dX0_init_11 : decode cX0_init 11 = .ok (.putfield 13, 3) := by decide +kernel
theorem dX0_init_14 : decode cX0_init 14 = .ok (.aload_n 0, 1) := by decide +kernel
theorem dX0_init_15 : decode cX0_init 15 = .ok (.iload_n 3, 1) := by decide +kernel
theorem dX0_init_16 : decode cX0_init 16 = .ok (.putfield 17, 3) := by decide +kernel
theorem dX0_init_19 : decode cX0_init 19 = .ok (.return_, 1) := by decide +kernel
theorem dX1_init_0 : decode cX1_init 0 = .ok (.aload_n 0, 1) := by decide +kernel
theorem dX1_init_1 : decode cX1_init 1 = .ok (.invokespecial 3, 3) := by decide +kernel
theorem dX1_init_4 : decode cX1_init 4 = .ok (.aload_n 0, 1) := by decide +kernel
theorem dX1_init_5 : decode cX1_init 5 = .ok (.new 9, 3) := by decide +kernel
theorem dX1_init_8 : decode cX1_init 8 = .ok (.dup, 1) := by decide +kernel
theorem dX1_init_9 : decode cX1_init 9 = .ok (.invokespecial 11, 3) := by decide +kernel
theorem dX1_init_12 : decode cX1_init 12 = .ok (.putfield 12, 3) := by decide +kernel
theorem dX1_init_15 : decode cX1_init 15 = .ok (.aload_n 0, 1) := by decide +kernel
theorem dX1_init_16 : decode cX1_init 16 = .ok (.aload_n 1, 1) := by decide +kernel
theorem dX1_init_17 : decode cX1_init 17 = .ok (.putfield 18, 3) := by decide +kernel
theorem dX1_init_20 : decode cX1_init 20 = .ok (.return_, 1) := by decide +kernel
theorem dX1_isWritten_0 : decode cX1_isWritten 0 = .ok (.aload_n 0, 1) := by decide +kernel
theorem dX1_isWritten_1 : decode cX1_isWritten 1 = .ok (.getfield 18, 3) := by decide +kernel
theorem dX1_isWritten_4 : decode cX1_isWritten 4 = .ok (.getfield 22, 3) := by decide +kernel
theorem dX1_isWritten_7 : decode cX1_isWritten 7 = .ok (.iconst 3, 1) := by decide +kernel
theorem dX1_isWritten_8 : decode cX1_isWritten 8 = .ok (.if_icmp .eq 7, 3) := by decide +kernel
theorem dX1_isWritten_11 : decode cX1_isWritten 11 = .ok (.iconst 1, 1) := by decide +kernel
theorem dX1_isWritten_12 : decode cX1_isWritten 12 = .ok (.goto 4, 3) := by decide +kernel
theorem dX1_isWritten_15 : decode cX1_isWritten 15 = .ok (.iconst 0, 1) := by decide +kernel
theorem dX1_isWritten_16 : decode cX1_isWritten 16 = .ok (.ireturn, 1) := by decide +kernel
theorem dX2_init_0 : decode cX2_init 0 = .ok (.aload_n 0, 1) := by decide +kernel
theorem dX2_init_1 : decode cX2_init 1 = .ok (.invokespecial 3, 3) := by decide +kernel
theorem dX2_init_4 : decode cX2_init 4 = .ok (.aload_n 0, 1) := by decide +kernel
theorem dX2_init_5 : decode cX2_init 5 = .ok (.aload_n 1, 1) := by decide +kernel
theorem dX2_init_6 : decode cX2_init 6 = .ok (.putfield 9, 3) := by decide +kernel
theorem dX2_init_9 : decode cX2_init 9 = .ok (.aload_n 0, 1) := by decide +kernel
theorem dX2_init_10 : decode cX2_init 10 = .ok (.sipush 320, 3) := by decide +kernel
theorem dX2_init_13 : decode cX2_init 13 = .ok (.anewarray 15, 3) := by decide +kernel
theorem dX2_init_16 : decode cX2_init 16 = .ok (.putfield 17, 3) := by decide +kernel
theorem dX2_init_19 : decode cX2_init 19 = .ok (.aload_n 0, 1) := by decide +kernel
theorem dX2_init_20 : decode cX2_init 20 = .ok (.bipush 40, 2) := by decide +kernel
theorem dX2_init_22 : decode cX2_init 22 = .ok (.newarray .int, 2) := by decide +kernel
theorem dX2_init_24 : decode cX2_init 24 = .ok (.putfield 21, 3) := by decide +kernel
theorem dX2_init_27 : decode cX2_init 27 = .ok (.return_, 1) := by decide +kernel
theorem dX2_makeArray_0 : decode cX2_makeArray 0 = .ok (.aload_n 0, 1) := by decide +kernel
theorem dX2_makeArray_1 : decode cX2_makeArray 1 = .ok (.getfield 25, 3) := by decide +kernel
theorem dX2_makeArray_4 : decode cX2_makeArray 4 = .ok (.bipush 40, 2) := by decide +kernel
theorem dX2_makeArray_6 : decode cX2_makeArray 6 = .ok (.if_icmp .ge 13, 3) := by decide +kernel
theorem dX2_makeArray_9 : decode cX2_makeArray 9 = .ok (.iload_n 1, 1) := by decide +kernel
theorem dX2_makeArray_10 : decode cX2_makeArray 10 = .ok (.ifCond .lt 9, 3) := by decide +kernel
theorem dX2_makeArray_13 : decode cX2_makeArray 13 = .ok (.iload_n 1, 1) := by decide +kernel
theorem dX2_makeArray_14 : decode cX2_makeArray 14 = .ok (.bipush 8, 2) := by decide +kernel
theorem dX2_makeArray_16 : decode cX2_makeArray 16 = .ok (.if_icmp .le 5, 3) := by decide +kernel
theorem dX2_makeArray_19 : decode cX2_makeArray 19 = .ok (.iconst (-1), 1) := by decide +kernel
theorem dX2_makeArray_20 : decode cX2_makeArray 20 = .ok (.ireturn, 1) := by decide +kernel
theorem dX2_makeArray_21 : decode cX2_makeArray 21 = .ok (.aload_n 0, 1) := by decide +kernel
theorem dX2_makeArray_22 : decode cX2_makeArray 22 = .ok (.getfield 25, 3) := by decide +kernel
theorem dX2_makeArray_25 : decode cX2_makeArray 25 = .ok (.istore_n 2, 1) := by decide +kernel
theorem dX2_makeArray_26 : decode cX2_makeArray 26 = .ok (.iload_n 2, 1) := by decide +kernel
theorem dX2_makeArray_27 : decode cX2_makeArray 27 = .ok (.bipush 8, 2) := by decide +kernel
theorem dX2_makeArray_29 : decode cX2_makeArray 29 = .ok (.imul, 1) := by decide +kernel
theorem dX2_makeArray_30 : decode cX2_makeArray 30 = .ok (.istore_n 3, 1) := by decide +kernel
theorem dX2_makeArray_31 : decode cX2_makeArray 31 = .ok (.iload_n 3, 1) := by decide +kernel
theorem dX2_makeArray_32 : decode cX2_makeArray 32 = .ok (.istore 4, 2) := by decide +kernel
theorem dX2_makeArray_34 : decode cX2_makeArray 34 = .ok (.iload 4, 2) := by decide +kernel
theorem dX2_makeArray_36 : decode cX2_makeArray 36 = .ok (.iload_n 3, 1) := by decide +kernel
theorem dX2_makeArray_37 : decode cX2_makeArray 37 = .ok (.iload_n 1, 1) := by decide +kernel
theorem dX2_makeArray_38 : decode cX2_makeArray 38 = .ok (.iadd, 1) := by decide +kernel
theorem dX2_makeArray_39 : decode cX2_makeArray 39 = .ok (.if_icmp .ge 47, 3) := by decide +kernel
theorem dX2_makeArray_42 : decode cX2_makeArray 42 = .ok (.iload 4, 2) := by decide +kernel
theorem dX2_makeArray_44 : decode cX2_makeArray 44 = .ok (.aload_n 0, 1) := by decide +kernel
theorem dX2_makeArray_45 : decode cX2_makeArray 45 = .ok (.getfield 17, 3) := by decide +kernel
theorem dX2_makeArray_48 : decode cX2_makeArray 48 = .ok (.arraylength, 1) := by decide +kernel
theorem dX2_makeArray_49 : decode cX2_makeArray 49 = .ok (.if_icmp .ge 37, 3) := by decide +kernel
theorem dX2_makeArray_52 : decode cX2_makeArray 52 = .ok (.aload_n 0, 1) := by decide +kernel
theorem dX2_makeArray_53 : decode cX2_makeArray 53 = .ok (.getfield 17, 3) := by decide +kernel
theorem dX2_makeArray_56 : decode cX2_makeArray 56 = .ok (.iload 4, 2) := by decide +kernel
theorem dX2_makeArray_58 : decode cX2_makeArray 58 = .ok (.aaload, 1) := by decide +kernel
theorem dX2_makeArray_59 : decode cX2_makeArray 59 = .ok (.ifnonnull 21, 3) := by decide +kernel
theorem dX2_makeArray_62 : decode cX2_makeArray 62 = .ok (.aload_n 0, 1) := by decide +kernel
theorem dX2_makeArray_63 : decode cX2_makeArray 63 = .ok (.getfield 17, 3) := by decide +kernel
theorem dX2_makeArray_66 : decode cX2_makeArray 66 = .ok (.iload 4, 2) := by decide +kernel
theorem dX2_makeArray_68 : decode cX2_makeArray 68 = .ok (.new 15, 3) := by decide +kernel
theorem dX2_makeArray_71 : decode cX2_makeArray 71 = .ok (.dup, 1) := by decide +kernel
theorem dX2_makeArray_72 : decode cX2_makeArray 72 = .ok (.aload_n 0, 1) := by decide +kernel
theorem dX2_makeArray_73 : decode cX2_makeArray 73 = .ok (.getfield 9, 3) := by decide +kernel
theorem dX2_makeArray_76 : decode cX2_makeArray 76 = .ok (.invokespecial 29, 3) := by decide +kernel
theorem dX2_makeArray_79 : decode cX2_makeArray 79 = .ok (.aastore, 1) := by decide +kernel
theorem dX2_makeArray_80 : decode cX2_makeArray 80 = .ok (.iinc 4 1, 3) := by decide +kernel
theorem dX2_makeArray_83 : decode cX2_makeArray 83 = .ok (.goto (-49), 3) := by decide +kernel
theorem dX2_makeArray_86 : decode cX2_makeArray 86 = .ok (.aload_n 0, 1) := by decide +kernel
theorem dX2_makeArray_87 : decode cX2_makeArray 87 = .ok (.getfield 21, 3) := by decide +kernel
theorem dX2_makeArray_90 : decode cX2_makeArray 90 = .ok (.iload_n 2, 1) := by decide +kernel
theorem dX2_makeArray_91 : decode cX2_makeArray 91 = .ok (.iload_n 1, 1) := by decide +kernel
theorem dX2_makeArray_92 : decode cX2_makeArray 92 = .ok (.iastore, 1) := by decide +kernel
theorem dX2_makeArray_93 : decode cX2_makeArray 93 = .ok (.aload_n 0, 1) := by decide +kernel
theorem dX2_makeArray_94 : decode cX2_makeArray 94 = .ok (.dup, 1) := by decide +kernel
theorem dX2_makeArray_95 : decode cX2_makeArray 95 = .ok (.getfield 25, 3) := by decide +kernel
theorem dX2_makeArray_98 : decode cX2_makeArray 98 = .ok (.iconst 1, 1) := by decide +kernel
theorem dX2_makeArray_99 : decode cX2_makeArray 99 = .ok (.iadd, 1) := by decide +kernel
theorem dX2_makeArray_100 : decode cX2_makeArray 100 = .ok (.putfield 25, 3) := by decide +kernel
theorem dX2_makeArray_103 : decode cX2_makeArray 103 = .ok (.iload_n 2, 1) := by decide +kernel
theorem dX2_makeArray_104 : decode cX2_makeArray 104 = .ok (.ireturn, 1) := by decide +kernel
theorem dX2_at_0 : decode cX2_at 0 = .ok (.lload_n 1, 1) := by decide +kernel
theorem dX2_at_1 : decode cX2_at 1 = .ok (.lconst 0, 1) := by decide +kernel
theorem dX2_at_2 : decode cX2_at 2 = .ok (.lcmp, 1) := by decide +kernel
theorem dX2_at_3 : decode cX2_at 3 = .ok (.ifCond .lt 24, 3) := by decide +kernel
theorem dX2_at_6 : decode cX2_at 6 = .ok (.lload_n 1, 1) := by decide +kernel
theorem dX2_at_7 : decode cX2_at 7 = .ok (.aload_n 0, 1) := by decide +kernel
theorem dX2_at_8 : decode cX2_at 8 = .ok (.getfield 25, 3) := by decide +kernel
theorem dX2_at_11 : decode cX2_at 11 = .ok (.i2l, 1) := by decide +kernel
theorem dX2_at_12 : decode cX2_at 12 = .ok (.lcmp, 1) := by decide +kernel
theorem dX2_at_13 : decode cX2_at 13 = .ok (.ifCond .ge 14, 3) := by decide +kernel
theorem dX2_at_16 : decode cX2_at 16 = .ok (.lload_n 1, 1) := by decide +kernel
theorem dX2_at_17 : decode cX2_at 17 = .ok (.aload_n 0, 1) := by decide +kernel
theorem dX2_at_18 : decode cX2_at 18 = .ok (.getfield 21, 3) := by decide +kernel
theorem dX2_at_21 : decode cX2_at 21 = .ok (.arraylength, 1) := by decide +kernel
theorem dX2_at_22 : decode cX2_at 22 = .ok (.i2l, 1) := by decide +kernel
theorem dX2_at_23 : decode cX2_at 23 = .ok (.lcmp, 1) := by decide +kernel
theorem dX2_at_24 : decode cX2_at 24 = .ok (.ifCond .lt 5, 3) := by decide +kernel
theorem dX2_at_27 : decode cX2_at 27 = .ok (.aconst_null, 1) := by decide +kernel
theorem dX2_at_28 : decode cX2_at 28 = .ok (.areturn, 1) := by decide +kernel
theorem dX2_at_29 : decode cX2_at 29 = .ok (.lload_n 3, 1) := by decide +kernel
theorem dX2_at_30 : decode cX2_at 30 = .ok (.lconst 0, 1) := by decide +kernel
theorem dX2_at_31 : decode cX2_at 31 = .ok (.lcmp, 1) := by decide +kernel
theorem dX2_at_32 : decode cX2_at 32 = .ok (.ifCond .lt 16, 3) := by decide +kernel
theorem dX2_at_35 : decode cX2_at 35 = .ok (.lload_n 3, 1) := by decide +kernel
theorem dX2_at_36 : decode cX2_at 36 = .ok (.aload_n 0, 1) := by decide +kernel
theorem dX2_at_37 : decode cX2_at 37 = .ok (.getfield 21, 3) := by decide +kernel
theorem dX2_at_40 : decode cX2_at 40 = .ok (.lload_n 1, 1) := by decide +kernel
theorem dX2_at_41 : decode cX2_at 41 = .ok (.l2i, 1) := by decide +kernel
theorem dX2_at_42 : decode cX2_at 42 = .ok (.iaload, 1) := by decide +kernel
theorem dX2_at_43 : decode cX2_at 43 = .ok (.i2l, 1) := by decide +kernel
theorem dX2_at_44 : decode cX2_at 44 = .ok (.lcmp, 1) := by decide +kernel
theorem dX2_at_45 : decode cX2_at 45 = .ok (.ifCond .lt 5, 3) := by decide +kernel
theorem dX2_at_48 : decode cX2_at 48 = .ok (.aconst_null, 1) := by decide +kernel
theorem dX2_at_49 : decode cX2_at 49 = .ok (.areturn, 1) := by decide +kernel
theorem dX2_at_50 : decode cX2_at 50 = .ok (.lload_n 1, 1) := by decide +kernel
theorem dX2_at_51 : decode cX2_at 51 = .ok (.l2i, 1) := by decide +kernel
theorem dX2_at_52 : decode cX2_at 52 = .ok (.bipush 8, 2) := by decide +kernel
theorem dX2_at_54 : decode cX2_at 54 = .ok (.imul, 1) := by decide +kernel
theorem dX2_at_55 : decode cX2_at 55 = .ok (.lload_n 3, 1) := by decide +kernel
theorem dX2_at_56 : decode cX2_at 56 = .ok (.l2i, 1) := by decide +kernel
theorem dX2_at_57 : decode cX2_at 57 = .ok (.iadd, 1) := by decide +kernel
theorem dX2_at_58 : decode cX2_at 58 = .ok (.istore 5, 2) := by decide +kernel
theorem dX2_at_60 : decode cX2_at 60 = .ok (.iload 5, 2) := by decide +kernel
theorem dX2_at_62 : decode cX2_at 62 = .ok (.aload_n 0, 1) := by decide +kernel
theorem dX2_at_63 : decode cX2_at 63 = .ok (.getfield 17, 3) := by decide +kernel
theorem dX2_at_66 : decode cX2_at 66 = .ok (.arraylength, 1) := by decide +kernel
theorem dX2_at_67 : decode cX2_at 67 = .ok (.if_icmp .ge 13, 3) := by decide +kernel
theorem dX2_at_70 : decode cX2_at 70 = .ok (.aload_n 0, 1) := by decide +kernel
theorem dX2_at_71 : decode cX2_at 71 = .ok (.getfield 17, 3) := by decide +kernel
theorem dX2_at_74 : decode cX2_at 74 = .ok (.iload 5, 2) := by decide +kernel
theorem dX2_at_76 : decode cX2_at 76 = .ok (.aaload, 1) := by decide +kernel
theorem dX2_at_77 : decode cX2_at 77 = .ok (.goto 4, 3) := by decide +kernel
theorem dX2_at_80 : decode cX2_at 80 = .ok (.aconst_null, 1) := by decide +kernel
theorem dX2_at_81 : decode cX2_at 81 = .ok (.areturn, 1) := by decide +kernel
theorem dX2_forgetAll_0 : decode cX2_forgetAll 0 = .ok (.iconst 0, 1) := by decide +kernel
theorem dX2_forgetAll_1 : decode cX2_forgetAll 1 = .ok (.istore_n 1, 1) := by decide +kernel
theorem dX2_forgetAll_2 : decode cX2_forgetAll 2 = .ok (.iload_n 1, 1) := by decide +kernel
theorem dX2_forgetAll_3 : decode cX2_forgetAll 3 = .ok (.aload_n 0, 1) := by decide +kernel
theorem dX2_forgetAll_4 : decode cX2_forgetAll 4 = .ok (.getfield 25, 3) := by decide +kernel
theorem dX2_forgetAll_7 : decode cX2_forgetAll 7 = .ok (.bipush 8, 2) := by decide +kernel
theorem dX2_forgetAll_9 : decode cX2_forgetAll 9 = .ok (.imul, 1) := by decide +kernel
theorem dX2_forgetAll_10 : decode cX2_forgetAll 10 = .ok (.if_icmp .ge 52, 3) := by decide +kernel
theorem dX2_forgetAll_13 : decode cX2_forgetAll 13 = .ok (.iload_n 1, 1) := by decide +kernel
theorem dX2_forgetAll_14 : decode cX2_forgetAll 14 = .ok (.aload_n 0, 1) := by decide +kernel
theorem dX2_forgetAll_15 : decode cX2_forgetAll 15 = .ok (.getfield 17, 3) := by decide +kernel
theorem dX2_forgetAll_18 : decode cX2_forgetAll 18 = .ok (.arraylength, 1) := by decide +kernel
theorem dX2_forgetAll_19 : decode cX2_forgetAll 19 = .ok (.if_icmp .ge 43, 3) := by decide +kernel
theorem dX2_forgetAll_22 : decode cX2_forgetAll 22 = .ok (.aload_n 0, 1) := by decide +kernel
theorem dX2_forgetAll_23 : decode cX2_forgetAll 23 = .ok (.getfield 17, 3) := by decide +kernel
theorem dX2_forgetAll_26 : decode cX2_forgetAll 26 = .ok (.iload_n 1, 1) := by decide +kernel
theorem dX2_forgetAll_27 : decode cX2_forgetAll 27 = .ok (.aaload, 1) := by decide +kernel
theorem dX2_forgetAll_28 : decode cX2_forgetAll 28 = .ok (.ifnull 28, 3) := by decide +kernel
theorem dX2_forgetAll_31 : decode cX2_forgetAll 31 = .ok (.aload_n 0, 1) := by decide +kernel
theorem dX2_forgetAll_32 : decode cX2_forgetAll 32 = .ok (.getfield 17, 3) := by decide +kernel
theorem dX2_forgetAll_35 : decode cX2_forgetAll 35 = .ok (.iload_n 1, 1) := by decide +kernel
theorem dX2_forgetAll_36 : decode cX2_forgetAll 36 = .ok (.aaload, 1) := by decide +kernel
theorem dX2_forgetAll_37 : decode cX2_forgetAll 37 = .ok (.aload_n 0, 1) := by decide +kernel
theorem dX2_forgetAll_38 : decode cX2_forgetAll 38 = .ok (.getfield 9, 3) := by decide +kernel
theorem dX2_forgetAll_41 : decode cX2_forgetAll 41 = .ok (.putfield 32, 3) := by decide +kernel
theorem dX2_forgetAll_44 : decode cX2_forgetAll 44 = .ok (.aload_n 0, 1) := by decide +kernel
theorem dX2_forgetAll_45 : decode cX2_forgetAll 45 = .ok (.getfield 17, 3) := by decide +kernel
theorem dX2_forgetAll_48 : decode cX2_forgetAll 48 = .ok (.iload_n 1, 1) := by decide +kernel
theorem dX2_forgetAll_49 : decode cX2_forgetAll 49 = .ok (.aaload, 1) := by decide +kernel
theorem dX2_forgetAll_50 : decode cX2_forgetAll 50 = .ok (.getfield 35, 3) := by decide +kernel
theorem dX2_forgetAll_53 : decode cX2_forgetAll 53 = .ok (.invokevirtual 39, 3) := by decide +kernel
theorem dX2_forgetAll_56 : decode cX2_forgetAll 56 = .ok (.iinc 1 1, 3) := by decide +kernel
theorem dX2_forgetAll_59 : decode cX2_forgetAll 59 = .ok (.goto (-57), 3) := by decide +kernel
theorem dX2_forgetAll_62 : decode cX2_forgetAll 62 = .ok (.aload_n 0, 1) := by decide +kernel
theorem dX2_forgetAll_63 : decode cX2_forgetAll 63 = .ok (.iconst 0, 1) := by decide +kernel
theorem dX2_forgetAll_64 : decode cX2_forgetAll 64 = .ok (.putfield 25, 3) := by decide +kernel
theorem dX2_forgetAll_67 : decode cX2_forgetAll 67 = .ok (.return_, 1) := by decide +kernel
theorem dX3_init_0 : decode cX3_init 0 = .ok (.aload_n 0, 1) := by decide +kernel
theorem dX3_init_1 : decode cX3_init 1 = .ok (.invokespecial 3, 3) := by decide +kernel
theorem dX3_init_4 : decode cX3_init 4 = .ok (.aload_n 0, 1) := by decide +kernel
theorem dX3_init_5 : decode cX3_init 5 = .ok (.sipush 151, 3) := by decide +kernel
theorem dX3_init_8 : decode cX3_init 8 = .ok (.newarray .int, 2) := by decide +kernel
theorem dX3_init_10 : decode cX3_init 10 = .ok (.putfield 9, 3) := by decide +kernel
theorem dX3_init_13 : decode cX3_init 13 = .ok (.aload_n 0, 1) := by decide +kernel
theorem dX3_init_14 : decode cX3_init 14 = .ok (.sipush 151, 3) := by decide +kernel
theorem dX3_init_17 : decode cX3_init 17 = .ok (.newarray .int, 2) := by decide +kernel
theorem dX3_init_19 : decode cX3_init 19 = .ok (.putfield 15, 3) := by decide +kernel
theorem dX3_init_22 : decode cX3_init 22 = .ok (.aload_n 0, 1) := by decide +kernel
theorem dX3_init_23 : decode cX3_init 23 = .ok (.sipush 151, 3) := by decide +kernel
theorem dX3_init_26 : decode cX3_init 26 = .ok (.newarray .int, 2) := by decide +kernel
theorem dX3_init_28 : decode cX3_init 28 = .ok (.putfield 18, 3) := by decide +kernel
theorem dX3_init_31 : decode cX3_init 31 = .ok (.aload_n 0, 1) := by decide +kernel
theorem dX3_init_32 : decode cX3_init 32 = .ok (.getfield 9, 3) := by decide +kernel
theorem dX3_init_35 : decode cX3_init 35 = .ok (.iconst 0, 1) := by decide +kernel
theorem dX3_init_36 : decode cX3_init 36 = .ok (.iconst (-1), 1) := by decide +kernel
theorem dX3_init_37 : decode cX3_init 37 = .ok (.iastore, 1) := by decide +kernel
theorem dX3_init_38 : decode cX3_init 38 = .ok (.aload_n 0, 1) := by decide +kernel
theorem dX3_init_39 : decode cX3_init 39 = .ok (.iconst 1, 1) := by decide +kernel
theorem dX3_init_40 : decode cX3_init 40 = .ok (.putfield 21, 3) := by decide +kernel
theorem dX3_init_43 : decode cX3_init 43 = .ok (.return_, 1) := by decide +kernel
theorem dX3_has_0 : decode cX3_has 0 = .ok (.iload_n 1, 1) := by decide +kernel
theorem dX3_has_1 : decode cX3_has 1 = .ok (.ifCond .lt 22, 3) := by decide +kernel
theorem dX3_has_4 : decode cX3_has 4 = .ok (.iload_n 1, 1) := by decide +kernel
theorem dX3_has_5 : decode cX3_has 5 = .ok (.aload_n 0, 1) := by decide +kernel
theorem dX3_has_6 : decode cX3_has 6 = .ok (.getfield 21, 3) := by decide +kernel
theorem dX3_has_9 : decode cX3_has 9 = .ok (.if_icmp .ge 14, 3) := by decide +kernel
theorem dX3_has_12 : decode cX3_has 12 = .ok (.iload_n 1, 1) := by decide +kernel
theorem dX3_has_13 : decode cX3_has 13 = .ok (.sipush 151, 3) := by decide +kernel
theorem dX3_has_16 : decode cX3_has 16 = .ok (.if_icmp .ge 7, 3) := by decide +kernel
theorem dX3_has_19 : decode cX3_has 19 = .ok (.iconst 1, 1) := by decide +kernel
theorem dX3_has_20 : decode cX3_has 20 = .ok (.goto 4, 3) := by decide +kernel
theorem dX3_has_23 : decode cX3_has 23 = .ok (.iconst 0, 1) := by decide +kernel
theorem dX3_has_24 : decode cX3_has 24 = .ok (.ireturn, 1) := by decide +kernel
theorem dX3_numberOf_0 : decode cX3_numberOf 0 = .ok (.iconst 1, 1) := by decide +kernel
theorem dX3_numberOf_1 : decode cX3_numberOf 1 = .ok (.istore 4, 2) := by decide +kernel
theorem dX3_numberOf_3 : decode cX3_numberOf 3 = .ok (.iload 4, 2) := by decide +kernel
theorem dX3_numberOf_5 : decode cX3_numberOf 5 = .ok (.aload_n 0, 1) := by decide +kernel
theorem dX3_numberOf_6 : decode cX3_numberOf 6 = .ok (.getfield 21, 3) := by decide +kernel
theorem dX3_numberOf_9 : decode cX3_numberOf 9 = .ok (.if_icmp .ge 53, 3) := by decide +kernel
theorem dX3_numberOf_12 : decode cX3_numberOf 12 = .ok (.iload 4, 2) := by decide +kernel
theorem dX3_numberOf_14 : decode cX3_numberOf 14 = .ok (.sipush 151, 3) := by decide +kernel
theorem dX3_numberOf_17 : decode cX3_numberOf 17 = .ok (.if_icmp .ge 45, 3) := by decide +kernel
theorem dX3_numberOf_20 : decode cX3_numberOf 20 = .ok (.aload_n 0, 1) := by decide +kernel
theorem dX3_numberOf_21 : decode cX3_numberOf 21 = .ok (.getfield 9, 3) := by decide +kernel
theorem dX3_numberOf_24 : decode cX3_numberOf 24 = .ok (.iload 4, 2) := by decide +kernel
theorem dX3_numberOf_26 : decode cX3_numberOf 26 = .ok (.iaload, 1) := by decide +kernel
theorem dX3_numberOf_27 : decode cX3_numberOf 27 = .ok (.iload_n 1, 1) := by decide +kernel
theorem dX3_numberOf_28 : decode cX3_numberOf 28 = .ok (.if_icmp .ne 28, 3) := by decide +kernel
theorem dX3_numberOf_31 : decode cX3_numberOf 31 = .ok (.aload_n 0, 1) := by decide +kernel
theorem dX3_numberOf_32 : decode cX3_numberOf 32 = .ok (.getfield 15, 3) := by decide +kernel
theorem dX3_numberOf_35 : decode cX3_numberOf 35 = .ok (.iload 4, 2) := by decide +kernel
theorem dX3_numberOf_37 : decode cX3_numberOf 37 = .ok (.iaload, 1) := by decide +kernel
theorem dX3_numberOf_38 : decode cX3_numberOf 38 = .ok (.iload_n 2, 1) := by decide +kernel
theorem dX3_numberOf_39 : decode cX3_numberOf 39 = .ok (.if_icmp .ne 17, 3) := by decide +kernel
theorem dX3_numberOf_42 : decode cX3_numberOf 42 = .ok (.aload_n 0, 1) := by decide +kernel
theorem dX3_numberOf_43 : decode cX3_numberOf 43 = .ok (.getfield 18, 3) := by decide +kernel
theorem dX3_numberOf_46 : decode cX3_numberOf 46 = .ok (.iload 4, 2) := by decide +kernel
theorem dX3_numberOf_48 : decode cX3_numberOf 48 = .ok (.iaload, 1) := by decide +kernel
theorem dX3_numberOf_49 : decode cX3_numberOf 49 = .ok (.iload_n 3, 1) := by decide +kernel
theorem dX3_numberOf_50 : decode cX3_numberOf 50 = .ok (.if_icmp .ne 6, 3) := by decide +kernel
theorem dX3_numberOf_53 : decode cX3_numberOf 53 = .ok (.iload 4, 2) := by decide +kernel
theorem dX3_numberOf_55 : decode cX3_numberOf 55 = .ok (.ireturn, 1) := by decide +kernel
theorem dX3_numberOf_56 : decode cX3_numberOf 56 = .ok (.iinc 4 1, 3) := by decide +kernel
theorem dX3_numberOf_59 : decode cX3_numberOf 59 = .ok (.goto (-56), 3) := by decide +kernel
theorem dX3_numberOf_62 : decode cX3_numberOf 62 = .ok (.aload_n 0, 1) := by decide +kernel
theorem dX3_numberOf_63 : decode cX3_numberOf 63 = .ok (.getfield 21, 3) := by decide +kernel
theorem dX3_numberOf_66 : decode cX3_numberOf 66 = .ok (.sipush 151, 3) := by decide +kernel
theorem dX3_numberOf_69 : decode cX3_numberOf 69 = .ok (.if_icmp .lt 5, 3) := by decide +kernel
theorem dX3_numberOf_72 : decode cX3_numberOf 72 = .ok (.iconst (-1), 1) := by decide +kernel
theorem dX3_numberOf_73 : decode cX3_numberOf 73 = .ok (.ireturn, 1) := by decide +kernel
theorem dX3_numberOf_74 : decode cX3_numberOf 74 = .ok (.aload_n 0, 1) := by decide +kernel
theorem dX3_numberOf_75 : decode cX3_numberOf 75 = .ok (.getfield 21, 3) := by decide +kernel
theorem dX3_numberOf_78 : decode cX3_numberOf 78 = .ok (.istore 4, 2) := by decide +kernel
theorem dX3_numberOf_80 : decode cX3_numberOf 80 = .ok (.aload_n 0, 1) := by decide +kernel
theorem dX3_numberOf_81 : decode cX3_numberOf 81 = .ok (.getfield 9, 3) := by decide +kernel
theorem dX3_numberOf_84 : decode cX3_numberOf 84 = .ok (.iload 4, 2) := by decide +kernel
theorem dX3_numberOf_86 : decode cX3_numberOf 86 = .ok (.iload_n 1, 1) := by decide +kernel
theorem dX3_numberOf_87 : decode cX3_numberOf 87 = .ok (.iastore, 1) := by decide +kernel
theorem dX3_numberOf_88 : decode cX3_numberOf 88 = .ok (.aload_n 0, 1) := by decide +kernel
theorem dX3_numberOf_89 : decode cX3_numberOf 89 = .ok (.getfield 15, 3) := by decide +kernel
theorem dX3_numberOf_92 : decode cX3_numberOf 92 = .ok (.iload 4, 2) := by decide +kernel
theorem dX3_numberOf_94 : decode cX3_numberOf 94 = .ok (.iload_n 2, 1) := by decide +kernel
theorem dX3_numberOf_95 : decode cX3_numberOf 95 = .ok (.iastore, 1) := by decide +kernel
theorem dX3_numberOf_96 : decode cX3_numberOf 96 = .ok (.aload_n 0, 1) := by decide +kernel
theorem dX3_numberOf_97 : decode cX3_numberOf 97 = .ok (.getfield 18, 3) := by decide +kernel
theorem dX3_numberOf_100 : decode cX3_numberOf 100 = .ok (.iload 4, 2) := by decide +kernel
theorem dX3_numberOf_102 : decode cX3_numberOf 102 = .ok (.iload_n 3, 1) := by decide +kernel
theorem dX3_numberOf_103 : decode cX3_numberOf 103 = .ok (.iastore, 1) := by decide +kernel
theorem dX3_numberOf_104 : decode cX3_numberOf 104 = .ok (.aload_n 0, 1) := by decide +kernel
theorem dX3_numberOf_105 : decode cX3_numberOf 105 = .ok (.dup, 1) := by decide +kernel
theorem dX3_numberOf_106 : decode cX3_numberOf 106 = .ok (.getfield 21, 3) := by decide +kernel
theorem dX3_numberOf_109 : decode cX3_numberOf 109 = .ok (.iconst 1, 1) := by decide +kernel
theorem dX3_numberOf_110 : decode cX3_numberOf 110 = .ok (.iadd, 1) := by decide +kernel
theorem dX3_numberOf_111 : decode cX3_numberOf 111 = .ok (.putfield 21, 3) := by decide +kernel
theorem dX3_numberOf_114 : decode cX3_numberOf 114 = .ok (.iload 4, 2) := by decide +kernel
theorem dX3_numberOf_116 : decode cX3_numberOf 116 = .ok (.ireturn, 1) := by decide +kernel
theorem dX3_nextRoundOf_0 : decode cX3_nextRoundOf 0 = .ok (.iload_n 1, 1) := by decide +kernel
theorem dX3_nextRoundOf_1 : decode cX3_nextRoundOf 1 = .ok (.ifCond .eq 11, 3) := by decide +kernel
theorem dX3_nextRoundOf_4 : decode cX3_nextRoundOf 4 = .ok (.aload_n 0, 1) := by decide +kernel
theorem dX3_nextRoundOf_5 : decode cX3_nextRoundOf 5 = .ok (.iload_n 1, 1) := by decide +kernel
theorem dX3_nextRoundOf_6 : decode cX3_nextRoundOf 6 = .ok (.invokevirtual 25, 3) := by decide +kernel
theorem dX3_nextRoundOf_9 : decode cX3_nextRoundOf 9 = .ok (.ifCond .ne 5, 3) := by decide +kernel
theorem dX3_nextRoundOf_12 : decode cX3_nextRoundOf 12 = .ok (.iconst 0, 1) := by decide +kernel
theorem dX3_nextRoundOf_13 : decode cX3_nextRoundOf 13 = .ok (.ireturn, 1) := by decide +kernel
theorem dX3_nextRoundOf_14 : decode cX3_nextRoundOf 14 = .ok (.aload_n 0, 1) := by decide +kernel
theorem dX3_nextRoundOf_15 : decode cX3_nextRoundOf 15 = .ok (.aload_n 0, 1) := by decide +kernel
theorem dX3_nextRoundOf_16 : decode cX3_nextRoundOf 16 = .ok (.getfield 9, 3) := by decide +kernel
theorem dX3_nextRoundOf_19 : decode cX3_nextRoundOf 19 = .ok (.iload_n 1, 1) := by decide +kernel
theorem dX3_nextRoundOf_20 : decode cX3_nextRoundOf 20 = .ok (.iaload, 1) := by decide +kernel
theorem dX3_nextRoundOf_21 : decode cX3_nextRoundOf 21 = .ok (.aload_n 0, 1) := by decide +kernel
theorem dX3_nextRoundOf_22 : decode cX3_nextRoundOf 22 = .ok (.getfield 15, 3) := by decide +kernel
theorem dX3_nextRoundOf_25 : decode cX3_nextRoundOf 25 = .ok (.iload_n 1, 1) := by decide +kernel
theorem dX3_nextRoundOf_26 : decode cX3_nextRoundOf 26 = .ok (.iaload, 1) := by decide +kernel
theorem dX3_nextRoundOf_27 : decode cX3_nextRoundOf 27 = .ok (.aload_n 0, 1) := by decide +kernel
theorem dX3_nextRoundOf_28 : decode cX3_nextRoundOf 28 = .ok (.getfield 18, 3) := by decide +kernel
theorem dX3_nextRoundOf_31 : decode cX3_nextRoundOf 31 = .ok (.iload_n 1, 1) := by decide +kernel
theorem dX3_nextRoundOf_32 : decode cX3_nextRoundOf 32 = .ok (.iaload, 1) := by decide +kernel
theorem dX3_nextRoundOf_33 : decode cX3_nextRoundOf 33 = .ok (.iconst 1, 1) := by decide +kernel
theorem dX3_nextRoundOf_34 : decode cX3_nextRoundOf 34 = .ok (.iadd, 1) := by decide +kernel
theorem dX3_nextRoundOf_35 : decode cX3_nextRoundOf 35 = .ok (.invokevirtual 29, 3) := by decide +kernel
theorem dX3_nextRoundOf_38 : decode cX3_nextRoundOf 38 = .ok (.ireturn, 1) := by decide +kernel
theorem dX3_firstRoundOf_0 : decode cX3_firstRoundOf 0 = .ok (.iload_n 1, 1) := by decide +kernel
theorem dX3_firstRoundOf_1 : decode cX3_firstRoundOf 1 = .ok (.ifCond .eq 11, 3) := by decide +kernel
theorem dX3_firstRoundOf_4 : decode cX3_firstRoundOf 4 = .ok (.aload_n 0, 1) := by decide +kernel
theorem dX3_firstRoundOf_5 : decode cX3_firstRoundOf 5 = .ok (.iload_n 1, 1) := by decide +kernel
theorem dX3_firstRoundOf_6 : decode cX3_firstRoundOf 6 = .ok (.invokevirtual 25, 3) := by decide +kernel
theorem dX3_firstRoundOf_9 : decode cX3_firstRoundOf 9 = .ok (.ifCond .ne 5, 3) := by decide +kernel
theorem dX3_firstRoundOf_12 : decode cX3_firstRoundOf 12 = .ok (.iconst 0, 1) := by decide +kernel
theorem dX3_firstRoundOf_13 : decode cX3_firstRoundOf 13 = .ok (.ireturn, 1) := by decide +kernel
theorem dX3_firstRoundOf_14 : decode cX3_firstRoundOf 14 = .ok (.aload_n 0, 1) := by decide +kernel
theorem dX3_firstRoundOf_15 : decode cX3_firstRoundOf 15 = .ok (.aload_n 0, 1) := by decide +kernel
theorem dX3_firstRoundOf_16 : decode cX3_firstRoundOf 16 = .ok (.getfield 9, 3) := by decide +kernel
theorem dX3_firstRoundOf_19 : decode cX3_firstRoundOf 19 = .ok (.iload_n 1, 1) := by decide +kernel
theorem dX3_firstRoundOf_20 : decode cX3_firstRoundOf 20 = .ok (.iaload, 1) := by decide +kernel
theorem dX3_firstRoundOf_21 : decode cX3_firstRoundOf 21 = .ok (.aload_n 0, 1) := by decide +kernel
theorem dX3_firstRoundOf_22 : decode cX3_firstRoundOf 22 = .ok (.getfield 15, 3) := by decide +kernel
theorem dX3_firstRoundOf_25 : decode cX3_firstRoundOf 25 = .ok (.iload_n 1, 1) := by decide +kernel
theorem dX3_firstRoundOf_26 : decode cX3_firstRoundOf 26 = .ok (.iaload, 1) := by decide +kernel
theorem dX3_firstRoundOf_27 : decode cX3_firstRoundOf 27 = .ok (.iconst 0, 1) := by decide +kernel
theorem dX3_firstRoundOf_28 : decode cX3_firstRoundOf 28 = .ok (.invokevirtual 29, 3) := by decide +kernel
theorem dX3_firstRoundOf_31 : decode cX3_firstRoundOf 31 = .ok (.ireturn, 1) := by decide +kernel
theorem dX3_outsideOf_0 : decode cX3_outsideOf 0 = .ok (.iload_n 1, 1) := by decide +kernel
theorem dX3_outsideOf_1 : decode cX3_outsideOf 1 = .ok (.ifCond .eq 11, 3) := by decide +kernel
theorem dX3_outsideOf_4 : decode cX3_outsideOf 4 = .ok (.aload_n 0, 1) := by decide +kernel
theorem dX3_outsideOf_5 : decode cX3_outsideOf 5 = .ok (.iload_n 1, 1) := by decide +kernel
theorem dX3_outsideOf_6 : decode cX3_outsideOf 6 = .ok (.invokevirtual 25, 3) := by decide +kernel
theorem dX3_outsideOf_9 : decode cX3_outsideOf 9 = .ok (.ifCond .ne 7, 3) := by decide +kernel
theorem dX3_outsideOf_12 : decode cX3_outsideOf 12 = .ok (.iconst 0, 1) := by decide +kernel
theorem dX3_outsideOf_13 : decode cX3_outsideOf 13 = .ok (.goto 9, 3) := by decide +kernel
theorem dX3_outsideOf_16 : decode cX3_outsideOf 16 = .ok (.aload_n 0, 1) := by decide +kernel
theorem dX3_outsideOf_17 : decode cX3_outsideOf 17 = .ok (.getfield 9, 3) := by decide +kernel
theorem dX3_outsideOf_20 : decode cX3_outsideOf 20 = .ok (.iload_n 1, 1) := by decide +kernel
theorem dX3_outsideOf_21 : decode cX3_outsideOf 21 = .ok (.iaload, 1) := by decide +kernel
theorem dX3_outsideOf_22 : decode cX3_outsideOf 22 = .ok (.ireturn, 1) := by decide +kernel
theorem dX3_siteOf_0 : decode cX3_siteOf 0 = .ok (.aload_n 0, 1) := by decide +kernel
theorem dX3_siteOf_1 : decode cX3_siteOf 1 = .ok (.iload_n 1, 1) := by decide +kernel
theorem dX3_siteOf_2 : decode cX3_siteOf 2 = .ok (.invokevirtual 25, 3) := by decide +kernel
theorem dX3_siteOf_5 : decode cX3_siteOf 5 = .ok (.ifCond .eq 12, 3) := by decide +kernel
theorem dX3_siteOf_8 : decode cX3_siteOf 8 = .ok (.aload_n 0, 1) := by decide +kernel
theorem dX3_siteOf_9 : decode cX3_siteOf 9 = .ok (.getfield 15, 3) := by decide +kernel
theorem dX3_siteOf_12 : decode cX3_siteOf 12 = .ok (.iload_n 1, 1) := by decide +kernel
theorem dX3_siteOf_13 : decode cX3_siteOf 13 = .ok (.iaload, 1) := by decide +kernel
theorem dX3_siteOf_14 : decode cX3_siteOf 14 = .ok (.goto 4, 3) := by decide +kernel
theorem dX3_siteOf_17 : decode cX3_siteOf 17 = .ok (.iconst 0, 1) := by decide +kernel
theorem dX3_siteOf_18 : decode cX3_siteOf 18 = .ok (.ireturn, 1) := by decide +kernel
theorem dX3_forgetAll_0 : decode cX3_forgetAll 0 = .ok (.aload_n 0, 1) := by decide +kernel
theorem dX3_forgetAll_1 : decode cX3_forgetAll 1 = .ok (.iconst 1, 1) := by decide +kernel
theorem dX3_forgetAll_2 : decode cX3_forgetAll 2 = .ok (.putfield 21, 3) := by decide +kernel
theorem dX3_forgetAll_5 : decode cX3_forgetAll 5 = .ok (.return_, 1) := by decide +kernel
theorem dX4_init_0 : decode cX4_init 0 = .ok (.aload_n 0, 1) := by decide +kernel
theorem dX4_init_1 : decode cX4_init 1 = .ok (.invokespecial 3, 3) := by decide +kernel
theorem dX4_init_4 : decode cX4_init 4 = .ok (.aload_n 0, 1) := by decide +kernel
theorem dX4_init_5 : decode cX4_init 5 = .ok (.aload_n 1, 1) := by decide +kernel
theorem dX4_init_6 : decode cX4_init 6 = .ok (.putfield 9, 3) := by decide +kernel
theorem dX4_init_9 : decode cX4_init 9 = .ok (.aload_n 0, 1) := by decide +kernel
theorem dX4_init_10 : decode cX4_init 10 = .ok (.iconst 3, 1) := by decide +kernel
theorem dX4_init_11 : decode cX4_init 11 = .ok (.anewarray 15, 3) := by decide +kernel
theorem dX4_init_14 : decode cX4_init 14 = .ok (.putfield 17, 3) := by decide +kernel
theorem dX4_init_17 : decode cX4_init 17 = .ok (.aload_n 0, 1) := by decide +kernel
theorem dX4_init_18 : decode cX4_init 18 = .ok (.aload_n 2, 1) := by decide +kernel
theorem dX4_init_19 : decode cX4_init 19 = .ok (.putfield 21, 3) := by decide +kernel
theorem dX4_init_22 : decode cX4_init 22 = .ok (.aload_n 0, 1) := by decide +kernel
theorem dX4_init_23 : decode cX4_init 23 = .ok (.iload_n 3, 1) := by decide +kernel
theorem dX4_init_24 : decode cX4_init 24 = .ok (.putfield 25, 3) := by decide +kernel
theorem dX4_init_27 : decode cX4_init 27 = .ok (.iconst 0, 1) := by decide +kernel
theorem dX4_init_28 : decode cX4_init 28 = .ok (.istore 4, 2) := by decide +kernel
theorem dX4_init_30 : decode cX4_init 30 = .ok (.iload 4, 2) := by decide +kernel
theorem dX4_init_32 : decode cX4_init 32 = .ok (.iconst 3, 1) := by decide +kernel
theorem dX4_init_33 : decode cX4_init 33 = .ok (.if_icmp .ge 17, 3) := by decide +kernel
theorem dX4_init_36 : decode cX4_init 36 = .ok (.aload_n 0, 1) := by decide +kernel
theorem dX4_init_37 : decode cX4_init 37 = .ok (.getfield 17, 3) := by decide +kernel
theorem dX4_init_40 : decode cX4_init 40 = .ok (.iload 4, 2) := by decide +kernel
theorem dX4_init_42 : decode cX4_init 42 = .ok (.aload_n 1, 1) := by decide +kernel
theorem dX4_init_43 : decode cX4_init 43 = .ok (.aastore, 1) := by decide +kernel
theorem dX4_init_44 : decode cX4_init 44 = .ok (.iinc 4 1, 3) := by decide +kernel
theorem dX4_init_47 : decode cX4_init 47 = .ok (.goto (-17), 3) := by decide +kernel
theorem dX4_init_50 : decode cX4_init 50 = .ok (.return_, 1) := by decide +kernel
theorem dX4_holds_0 : decode cX4_holds 0 = .ok (.iload_n 1, 1) := by decide +kernel
theorem dX4_holds_1 : decode cX4_holds 1 = .ok (.ifCond .lt 29, 3) := by decide +kernel
theorem dX4_holds_4 : decode cX4_holds 4 = .ok (.iload_n 1, 1) := by decide +kernel
theorem dX4_holds_5 : decode cX4_holds 5 = .ok (.aload_n 0, 1) := by decide +kernel
theorem dX4_holds_6 : decode cX4_holds 6 = .ok (.getfield 17, 3) := by decide +kernel
theorem dX4_holds_9 : decode cX4_holds 9 = .ok (.arraylength, 1) := by decide +kernel
theorem dX4_holds_10 : decode cX4_holds 10 = .ok (.if_icmp .ge 20, 3) := by decide +kernel
theorem dX4_holds_13 : decode cX4_holds 13 = .ok (.aload_n 0, 1) := by decide +kernel
theorem dX4_holds_14 : decode cX4_holds 14 = .ok (.getfield 17, 3) := by decide +kernel
theorem dX4_holds_17 : decode cX4_holds 17 = .ok (.iload_n 1, 1) := by decide +kernel
theorem dX4_holds_18 : decode cX4_holds 18 = .ok (.aaload, 1) := by decide +kernel
theorem dX4_holds_19 : decode cX4_holds 19 = .ok (.getfield 29, 3) := by decide +kernel
theorem dX4_holds_22 : decode cX4_holds 22 = .ok (.iconst 3, 1) := by decide +kernel
theorem dX4_holds_23 : decode cX4_holds 23 = .ok (.if_icmp .eq 7, 3) := by decide +kernel
theorem dX4_holds_26 : decode cX4_holds 26 = .ok (.iconst 1, 1) := by decide +kernel
theorem dX4_holds_27 : decode cX4_holds 27 = .ok (.goto 4, 3) := by decide +kernel
theorem dX4_holds_30 : decode cX4_holds 30 = .ok (.iconst 0, 1) := by decide +kernel
theorem dX4_holds_31 : decode cX4_holds 31 = .ok (.ireturn, 1) := by decide +kernel
theorem dX4_put_0 : decode cX4_put 0 = .ok (.iload_n 1, 1) := by decide +kernel
theorem dX4_put_1 : decode cX4_put 1 = .ok (.ifCond .lt 29, 3) := by decide +kernel
theorem dX4_put_4 : decode cX4_put 4 = .ok (.iload_n 1, 1) := by decide +kernel
theorem dX4_put_5 : decode cX4_put 5 = .ok (.aload_n 0, 1) := by decide +kernel
theorem dX4_put_6 : decode cX4_put 6 = .ok (.getfield 17, 3) := by decide +kernel
theorem dX4_put_9 : decode cX4_put 9 = .ok (.arraylength, 1) := by decide +kernel
theorem dX4_put_10 : decode cX4_put 10 = .ok (.if_icmp .ge 20, 3) := by decide +kernel
theorem dX4_put_13 : decode cX4_put 13 = .ok (.aload_n 0, 1) := by decide +kernel
theorem dX4_put_14 : decode cX4_put 14 = .ok (.getfield 17, 3) := by decide +kernel
theorem dX4_put_17 : decode cX4_put 17 = .ok (.iload_n 1, 1) := by decide +kernel
theorem dX4_put_18 : decode cX4_put 18 = .ok (.aload_n 2, 1) := by decide +kernel
theorem dX4_put_19 : decode cX4_put 19 = .ok (.aastore, 1) := by decide +kernel
theorem dX4_put_20 : decode cX4_put 20 = .ok (.aload_n 0, 1) := by decide +kernel
theorem dX4_put_21 : decode cX4_put 21 = .ok (.dup, 1) := by decide +kernel
theorem dX4_put_22 : decode cX4_put 22 = .ok (.getfield 32, 3) := by decide +kernel
theorem dX4_put_25 : decode cX4_put 25 = .ok (.iconst 1, 1) := by decide +kernel
theorem dX4_put_26 : decode cX4_put 26 = .ok (.iadd, 1) := by decide +kernel
theorem dX4_put_27 : decode cX4_put 27 = .ok (.putfield 32, 3) := by decide +kernel
theorem dX4_put_30 : decode cX4_put 30 = .ok (.return_, 1) := by decide +kernel
theorem dX4_empty_0 : decode cX4_empty 0 = .ok (.iconst 0, 1) := by decide +kernel
theorem dX4_empty_1 : decode cX4_empty 1 = .ok (.istore_n 1, 1) := by decide +kernel
theorem dX4_empty_2 : decode cX4_empty 2 = .ok (.iload_n 1, 1) := by decide +kernel
theorem dX4_empty_3 : decode cX4_empty 3 = .ok (.aload_n 0, 1) := by decide +kernel
theorem dX4_empty_4 : decode cX4_empty 4 = .ok (.getfield 17, 3) := by decide +kernel
theorem dX4_empty_7 : decode cX4_empty 7 = .ok (.arraylength, 1) := by decide +kernel
theorem dX4_empty_8 : decode cX4_empty 8 = .ok (.if_icmp .ge 19, 3) := by decide +kernel
theorem dX4_empty_11 : decode cX4_empty 11 = .ok (.aload_n 0, 1) := by decide +kernel
theorem dX4_empty_12 : decode cX4_empty 12 = .ok (.getfield 17, 3) := by decide +kernel
theorem dX4_empty_15 : decode cX4_empty 15 = .ok (.iload_n 1, 1) := by decide +kernel
theorem dX4_empty_16 : decode cX4_empty 16 = .ok (.aload_n 0, 1) := by decide +kernel
theorem dX4_empty_17 : decode cX4_empty 17 = .ok (.getfield 9, 3) := by decide +kernel
theorem dX4_empty_20 : decode cX4_empty 20 = .ok (.aastore, 1) := by decide +kernel
theorem dX4_empty_21 : decode cX4_empty 21 = .ok (.iinc 1 1, 3) := by decide +kernel
theorem dX4_empty_24 : decode cX4_empty 24 = .ok (.goto (-22), 3) := by decide +kernel
theorem dX4_empty_27 : decode cX4_empty 27 = .ok (.aload_n 0, 1) := by decide +kernel
theorem dX4_empty_28 : decode cX4_empty 28 = .ok (.iconst 0, 1) := by decide +kernel
theorem dX4_empty_29 : decode cX4_empty 29 = .ok (.putfield 32, 3) := by decide +kernel
theorem dX4_empty_32 : decode cX4_empty 32 = .ok (.return_, 1) := by decide +kernel
theorem dX5_init_0 : decode cX5_init 0 = .ok (.aload_n 0, 1) := by decide +kernel
theorem dX5_init_1 : decode cX5_init 1 = .ok (.invokespecial 1, 3) := by decide +kernel
theorem dX5_init_4 : decode cX5_init 4 = .ok (.aload_n 0, 1) := by decide +kernel
theorem dX5_init_5 : decode cX5_init 5 = .ok (.aload_n 1, 1) := by decide +kernel
theorem dX5_init_6 : decode cX5_init 6 = .ok (.putfield 7, 3) := by decide +kernel
theorem dX5_init_9 : decode cX5_init 9 = .ok (.aload_n 0, 1) := by decide +kernel
theorem dX5_init_10 : decode cX5_init 10 = .ok (.new 13, 3) := by decide +kernel
theorem dX5_init_13 : decode cX5_init 13 = .ok (.dup, 1) := by decide +kernel
theorem dX5_init_14 : decode cX5_init 14 = .ok (.invokespecial 15, 3) := by decide +kernel
theorem dX5_init_17 : decode cX5_init 17 = .ok (.putfield 16, 3) := by decide +kernel
theorem dX5_init_20 : decode cX5_init 20 = .ok (.aload_n 0, 1) := by decide +kernel
theorem dX5_init_21 : decode cX5_init 21 = .ok (.new 13, 3) := by decide +kernel
theorem dX5_init_24 : decode cX5_init 24 = .ok (.dup, 1) := by decide +kernel
theorem dX5_init_25 : decode cX5_init 25 = .ok (.invokespecial 15, 3) := by decide +kernel
theorem dX5_init_28 : decode cX5_init 28 = .ok (.putfield 20, 3) := by decide +kernel
theorem dX5_init_31 : decode cX5_init 31 = .ok (.return_, 1) := by decide +kernel
theorem dX5_take_0 : decode cX5_take 0 = .ok (.aload_n 0, 1) := by decide +kernel
theorem dX5_take_1 : decode cX5_take 1 = .ok (.getfield 20, 3) := by decide +kernel
theorem dX5_take_4 : decode cX5_take 4 = .ok (.invokevirtual 23, 3) := by decide +kernel
theorem dX5_take_7 : decode cX5_take 7 = .ok (.ifCond .eq 28, 3) := by decide +kernel
theorem dX5_take_10 : decode cX5_take 10 = .ok (.new 27, 3) := by decide +kernel
theorem dX5_take_13 : decode cX5_take 13 = .ok (.dup, 1) := by decide +kernel
theorem dX5_take_14 : decode cX5_take 14 = .ok (.aload_n 0, 1) := by decide +kernel
theorem dX5_take_15 : decode cX5_take 15 = .ok (.getfield 7, 3) := by decide +kernel
theorem dX5_take_18 : decode cX5_take 18 = .ok (.aload_n 1, 1) := by decide +kernel
theorem dX5_take_19 : decode cX5_take 19 = .ok (.iload_n 2, 1) := by decide +kernel
theorem dX5_take_20 : decode cX5_take 20 = .ok (.invokespecial 29, 3) := by decide +kernel
theorem dX5_take_23 : decode cX5_take 23 = .ok (.astore_n 3, 1) := by decide +kernel
theorem dX5_take_24 : decode cX5_take 24 = .ok (.aload_n 0, 1) := by decide +kernel
theorem dX5_take_25 : decode cX5_take 25 = .ok (.getfield 16, 3) := by decide +kernel
theorem dX5_take_28 : decode cX5_take 28 = .ok (.aload_n 3, 1) := by decide +kernel
theorem dX5_take_29 : decode cX5_take 29 = .ok (.invokevirtual 32, 3) := by decide +kernel
theorem dX5_take_32 : decode cX5_take 32 = .ok (.pop, 1) := by decide +kernel
theorem dX5_take_33 : decode cX5_take 33 = .ok (.aload_n 3, 1) := by decide +kernel
theorem dX5_take_34 : decode cX5_take 34 = .ok (.areturn, 1) := by decide +kernel
theorem dX5_take_35 : decode cX5_take 35 = .ok (.aload_n 0, 1) := by decide +kernel
theorem dX5_take_36 : decode cX5_take 36 = .ok (.getfield 20, 3) := by decide +kernel
theorem dX5_take_39 : decode cX5_take 39 = .ok (.aload_n 0, 1) := by decide +kernel
theorem dX5_take_40 : decode cX5_take 40 = .ok (.getfield 20, 3) := by decide +kernel
theorem dX5_take_43 : decode cX5_take 43 = .ok (.invokevirtual 36, 3) := by decide +kernel
theorem dX5_take_46 : decode cX5_take 46 = .ok (.iconst 1, 1) := by decide +kernel
theorem dX5_take_47 : decode cX5_take 47 = .ok (.isub, 1) := by decide +kernel
theorem dX5_take_48 : decode cX5_take 48 = .ok (.invokevirtual 40, 3) := by decide +kernel
theorem dX5_take_51 : decode cX5_take 51 = .ok (.checkcast 27, 3) := by decide +kernel
theorem dX5_take_54 : decode cX5_take 54 = .ok (.astore_n 3, 1) := by decide +kernel
theorem dX5_take_55 : decode cX5_take 55 = .ok (.aload_n 3, 1) := by decide +kernel
theorem dX5_take_56 : decode cX5_take 56 = .ok (.aload_n 1, 1) := by decide +kernel
theorem dX5_take_57 : decode cX5_take 57 = .ok (.putfield 44, 3) := by decide +kernel
theorem dX5_take_60 : decode cX5_take 60 = .ok (.aload_n 3, 1) := by decide +kernel
theorem dX5_take_61 : decode cX5_take 61 = .ok (.iload_n 2, 1) := by decide +kernel
theorem dX5_take_62 : decode cX5_take 62 = .ok (.putfield 48, 3) := by decide +kernel
theorem dX5_take_65 : decode cX5_take 65 = .ok (.aload_n 3, 1) := by decide +kernel
theorem dX5_take_66 : decode cX5_take 66 = .ok (.areturn, 1) := by decide +kernel
theorem dX5_takeBack_0 : decode cX5_takeBack 0 = .ok (.aload_n 1, 1) := by decide +kernel
theorem dX5_takeBack_1 : decode cX5_takeBack 1 = .ok (.invokevirtual 52, 3) := by decide +kernel
theorem dX5_takeBack_4 : decode cX5_takeBack 4 = .ok (.aload_n 0, 1) := by decide +kernel
theorem dX5_takeBack_5 : decode cX5_takeBack 5 = .ok (.getfield 20, 3) := by decide +kernel
theorem dX5_takeBack_8 : decode cX5_takeBack 8 = .ok (.aload_n 1, 1) := by decide +kernel
theorem dX5_takeBack_9 : decode cX5_takeBack 9 = .ok (.invokevirtual 32, 3) := by decide +kernel
theorem dX5_takeBack_12 : decode cX5_takeBack 12 = .ok (.pop, 1) := by decide +kernel
theorem dX5_takeBack_13 : decode cX5_takeBack 13 = .ok (.return_, 1) := by decide +kernel
theorem dX5_takeAllBack_0 : decode cX5_takeAllBack 0 = .ok (.aload_n 0, 1) := by decide +kernel
theorem dX5_takeAllBack_1 : decode cX5_takeAllBack 1 = .ok (.getfield 20, 3) := by decide +kernel
theorem dX5_takeAllBack_4 : decode cX5_takeAllBack 4 = .ok (.invokevirtual 55, 3) := by decide +kernel
theorem dX5_takeAllBack_7 : decode cX5_takeAllBack 7 = .ok (.iconst 0, 1) := by decide +kernel
theorem dX5_takeAllBack_8 : decode cX5_takeAllBack 8 = .ok (.istore_n 1, 1) := by decide +kernel
theorem dX5_takeAllBack_9 : decode cX5_takeAllBack 9 = .ok (.iload_n 1, 1) := by decide +kernel
theorem dX5_takeAllBack_10 : decode cX5_takeAllBack 10 = .ok (.aload_n 0, 1) := by decide +kernel
theorem dX5_takeAllBack_11 : decode cX5_takeAllBack 11 = .ok (.getfield 16, 3) := by decide +kernel
theorem dX5_takeAllBack_14 : decode cX5_takeAllBack 14 = .ok (.invokevirtual 36, 3) := by decide +kernel
theorem dX5_takeAllBack_17 : decode cX5_takeAllBack 17 = .ok (.if_icmp .ge 24, 3) := by decide +kernel
theorem dX5_takeAllBack_20 : decode cX5_takeAllBack 20 = .ok (.aload_n 0, 1) := by decide +kernel
theorem dX5_takeAllBack_21 : decode cX5_takeAllBack 21 = .ok (.aload_n 0, 1) := by decide +kernel
theorem dX5_takeAllBack_22 : decode cX5_takeAllBack 22 = .ok (.getfield 16, 3) := by decide +kernel
theorem dX5_takeAllBack_25 : decode cX5_takeAllBack 25 = .ok (.iload_n 1, 1) := by decide +kernel
theorem dX5_takeAllBack_26 : decode cX5_takeAllBack 26 = .ok (.invokevirtual 58, 3) := by decide +kernel
theorem dX5_takeAllBack_29 : decode cX5_takeAllBack 29 = .ok (.checkcast 27, 3) := by decide +kernel
theorem dX5_takeAllBack_32 : decode cX5_takeAllBack 32 = .ok (.invokevirtual 61, 3) := by decide +kernel
theorem dX5_takeAllBack_35 : decode cX5_takeAllBack 35 = .ok (.iinc 1 1, 3) := by decide +kernel
theorem dX5_takeAllBack_38 : decode cX5_takeAllBack 38 = .ok (.goto (-29), 3) := by decide +kernel
theorem dX5_takeAllBack_41 : decode cX5_takeAllBack 41 = .ok (.return_, 1) := by decide +kernel
theorem dX6_init_0 : decode cX6_init 0 = .ok (.aload_n 0, 1) := by decide +kernel
theorem dX6_init_1 : decode cX6_init 1 = .ok (.invokespecial 3, 3) := by decide +kernel
theorem dX6_init_4 : decode cX6_init 4 = .ok (.aload_n 0, 1) := by decide +kernel
theorem dX6_init_5 : decode cX6_init 5 = .ok (.iload_n 1, 1) := by decide +kernel
theorem dX6_init_6 : decode cX6_init 6 = .ok (.putfield 9, 3) := by decide +kernel
theorem dX6_init_9 : decode cX6_init 9 = .ok (.aload_n 0, 1) := by decide +kernel
theorem dX6_init_10 : decode cX6_init 10 = .ok (.iload_n 2, 1) := by decide +kernel
theorem dX6_init_11 : decode cX6_init 11 = .ok (.putfield 15, 3) := by decide +kernel
theorem dX6_init_14 : decode cX6_init 14 = .ok (.aload_n 0, 1) := by decide +kernel
theorem dX6_init_15 : decode cX6_init 15 = .ok (.iload_n 3, 1) := by decide +kernel
theorem dX6_init_16 : decode cX6_init 16 = .ok (.putfield 18, 3) := by decide +kernel
theorem dX6_init_19 : decode cX6_init 19 = .ok (.aload_n 0, 1) := by decide +kernel
theorem dX6_init_20 : decode cX6_init 20 = .ok (.iload 4, 2) := by decide +kernel
theorem dX6_init_22 : decode cX6_init 22 = .ok (.putfield 21, 3) := by decide +kernel
theorem dX6_init_25 : decode cX6_init 25 = .ok (.aload_n 0, 1) := by decide +kernel
theorem dX6_init_26 : decode cX6_init 26 = .ok (.iload 5, 2) := by decide +kernel
theorem dX6_init_28 : decode cX6_init 28 = .ok (.putfield 24, 3) := by decide +kernel
theorem dX6_init_31 : decode cX6_init 31 = .ok (.aload_n 0, 1) := by decide +kernel
theorem dX6_init_32 : decode cX6_init 32 = .ok (.iload 6, 2) := by decide +kernel
theorem dX6_init_34 : decode cX6_init 34 = .ok (.putfield 27, 3) := by decide +kernel
theorem dX6_init_37 : decode cX6_init 37 = .ok (.aload_n 0, 1) := by decide +kernel
theorem dX6_init_38 : decode cX6_init 38 = .ok (.new 30, 3) := by decide +kernel
theorem dX6_init_41 : decode cX6_init 41 = .ok (.dup, 1) := by decide +kernel
theorem dX6_init_42 : decode cX6_init 42 = .ok (.invokespecial 32, 3) := by decide +kernel
theorem dX6_init_45 : decode cX6_init 45 = .ok (.putfield 33, 3) := by decide +kernel
theorem dX6_init_48 : decode cX6_init 48 = .ok (.aload_n 0, 1) := by decide +kernel
theorem dX6_init_49 : decode cX6_init 49 = .ok (.new 30, 3) := by decide +kernel
theorem dX6_init_52 : decode cX6_init 52 = .ok (.dup, 1) := by decide +kernel
theorem dX6_init_53 : decode cX6_init 53 = .ok (.invokespecial 32, 3) := by decide +kernel
theorem dX6_init_56 : decode cX6_init 56 = .ok (.putfield 37, 3) := by decide +kernel
theorem dX6_init_59 : decode cX6_init 59 = .ok (.return_, 1) := by decide +kernel
theorem dX6_hasSide_0 : decode cX6_hasSide 0 = .ok (.iload_n 1, 1) := by decide +kernel
theorem dX6_hasSide_1 : decode cX6_hasSide 1 = .ok (.ifCond .eq 17, 3) := by decide +kernel
theorem dX6_hasSide_4 : decode cX6_hasSide 4 = .ok (.iload_n 1, 1) := by decide +kernel
theorem dX6_hasSide_5 : decode cX6_hasSide 5 = .ok (.iconst 1, 1) := by decide +kernel
theorem dX6_hasSide_6 : decode cX6_hasSide 6 = .ok (.if_icmp .ne 16, 3) := by decide +kernel
theorem dX6_hasSide_9 : decode cX6_hasSide 9 = .ok (.aload_n 0, 1) := by decide +kernel
theorem dX6_hasSide_10 : decode cX6_hasSide 10 = .ok (.getfield 15, 3) := by decide +kernel
theorem dX6_hasSide_13 : decode cX6_hasSide 13 = .ok (.bipush 7, 2) := by decide +kernel
theorem dX6_hasSide_15 : decode cX6_hasSide 15 = .ok (.if_icmp .ne 7, 3) := by decide +kernel
theorem dX6_hasSide_18 : decode cX6_hasSide 18 = .ok (.iconst 1, 1) := by decide +kernel
theorem dX6_hasSide_19 : decode cX6_hasSide 19 = .ok (.goto 4, 3) := by decide +kernel
theorem dX6_hasSide_22 : decode cX6_hasSide 22 = .ok (.iconst 0, 1) := by decide +kernel
theorem dX6_hasSide_23 : decode cX6_hasSide 23 = .ok (.ireturn, 1) := by decide +kernel
theorem dX6_hasPort_0 : decode cX6_hasPort 0 = .ok (.iload_n 1, 1) := by decide +kernel
theorem dX6_hasPort_1 : decode cX6_hasPort 1 = .ok (.ifCond .lt 15, 3) := by decide +kernel
theorem dX6_hasPort_4 : decode cX6_hasPort 4 = .ok (.iload_n 1, 1) := by decide +kernel
theorem dX6_hasPort_5 : decode cX6_hasPort 5 = .ok (.aload_n 0, 1) := by decide +kernel
theorem dX6_hasPort_6 : decode cX6_hasPort 6 = .ok (.getfield 21, 3) := by decide +kernel
theorem dX6_hasPort_9 : decode cX6_hasPort 9 = .ok (.if_icmp .ge 7, 3) := by decide +kernel
theorem dX6_hasPort_12 : decode cX6_hasPort 12 = .ok (.iconst 1, 1) := by decide +kernel
theorem dX6_hasPort_13 : decode cX6_hasPort 13 = .ok (.goto 4, 3) := by decide +kernel
theorem dX6_hasPort_16 : decode cX6_hasPort 16 = .ok (.iconst 0, 1) := by decide +kernel
theorem dX6_hasPort_17 : decode cX6_hasPort 17 = .ok (.ireturn, 1) := by decide +kernel
theorem dX6_addArc_0 : decode cX6_addArc 0 = .ok (.aload_n 0, 1) := by decide +kernel
theorem dX6_addArc_1 : decode cX6_addArc 1 = .ok (.getfield 33, 3) := by decide +kernel
theorem dX6_addArc_4 : decode cX6_addArc 4 = .ok (.invokevirtual 40, 3) := by decide +kernel
theorem dX6_addArc_7 : decode cX6_addArc 7 = .ok (.bipush 6, 2) := by decide +kernel
theorem dX6_addArc_9 : decode cX6_addArc 9 = .ok (.if_icmp .lt 5, 3) := by decide +kernel
theorem dX6_addArc_12 : decode cX6_addArc 12 = .ok (.iconst 0, 1) := by decide +kernel
theorem dX6_addArc_13 : decode cX6_addArc 13 = .ok (.ireturn, 1) := by decide +kernel
theorem dX6_addArc_14 : decode cX6_addArc 14 = .ok (.aload_n 0, 1) := by decide +kernel
theorem dX6_addArc_15 : decode cX6_addArc 15 = .ok (.getfield 33, 3) := by decide +kernel
theorem dX6_addArc_18 : decode cX6_addArc 18 = .ok (.new 44, 3) := by decide +kernel
theorem dX6_addArc_21 : decode cX6_addArc 21 = .ok (.dup, 1) := by decide +kernel
theorem dX6_addArc_22 : decode cX6_addArc 22 = .ok (.iload_n 1, 1) := by decide +kernel
theorem dX6_addArc_23 : decode cX6_addArc 23 = .ok (.aload_n 2, 1) := by decide +kernel
theorem dX6_addArc_24 : decode cX6_addArc 24 = .ok (.iload_n 3, 1) := by decide +kernel
theorem dX6_addArc_25 : decode cX6_addArc 25 = .ok (.invokespecial 46, 3) := by decide +kernel
theorem dX6_addArc_28 : decode cX6_addArc 28 = .ok (.invokevirtual 49, 3) := by decide +kernel
theorem dX6_addArc_31 : decode cX6_addArc 31 = .ok (.pop, 1) := by decide +kernel
theorem dX6_addArc_32 : decode cX6_addArc 32 = .ok (.iconst 1, 1) := by decide +kernel
theorem dX6_addArc_33 : decode cX6_addArc 33 = .ok (.ireturn, 1) := by decide +kernel
theorem dX6_frameIn_0 : decode cX6_frameIn 0 = .ok (.iconst 0, 1) := by decide +kernel
theorem dX6_frameIn_1 : decode cX6_frameIn 1 = .ok (.istore_n 2, 1) := by decide +kernel
theorem dX6_frameIn_2 : decode cX6_frameIn 2 = .ok (.iload_n 2, 1) := by decide +kernel
theorem dX6_frameIn_3 : decode cX6_frameIn 3 = .ok (.aload_n 0, 1) := by decide +kernel
theorem dX6_frameIn_4 : decode cX6_frameIn 4 = .ok (.getfield 37, 3) := by decide +kernel
theorem dX6_frameIn_7 : decode cX6_frameIn 7 = .ok (.invokevirtual 40, 3) := by decide +kernel
theorem dX6_frameIn_10 : decode cX6_frameIn 10 = .ok (.if_icmp .ge 31, 3) := by decide +kernel
theorem dX6_frameIn_13 : decode cX6_frameIn 13 = .ok (.aload_n 0, 1) := by decide +kernel
theorem dX6_frameIn_14 : decode cX6_frameIn 14 = .ok (.getfield 37, 3) := by decide +kernel
theorem dX6_frameIn_17 : decode cX6_frameIn 17 = .ok (.iload_n 2, 1) := by decide +kernel
theorem dX6_frameIn_18 : decode cX6_frameIn 18 = .ok (.invokevirtual 53, 3) := by decide +kernel
theorem dX6_frameIn_21 : decode cX6_frameIn 21 = .ok (.checkcast 57, 3) := by decide +kernel
theorem dX6_frameIn_24 : decode cX6_frameIn 24 = .ok (.astore_n 3, 1) := by decide +kernel
theorem dX6_frameIn_25 : decode cX6_frameIn 25 = .ok (.aload_n 3, 1) := by decide +kernel
theorem dX6_frameIn_26 : decode cX6_frameIn 26 = .ok (.getfield 59, 3) := by decide +kernel
theorem dX6_frameIn_29 : decode cX6_frameIn 29 = .ok (.iload_n 1, 1) := by decide +kernel
theorem dX6_frameIn_30 : decode cX6_frameIn 30 = .ok (.if_icmp .ne 5, 3) := by decide +kernel
theorem dX6_frameIn_33 : decode cX6_frameIn 33 = .ok (.aload_n 3, 1) := by decide +kernel
theorem dX6_frameIn_34 : decode cX6_frameIn 34 = .ok (.areturn, 1) := by decide +kernel
theorem dX6_frameIn_35 : decode cX6_frameIn 35 = .ok (.iinc 2 1, 3) := by decide +kernel
theorem dX6_frameIn_38 : decode cX6_frameIn 38 = .ok (.goto (-36), 3) := by decide +kernel
theorem dX6_frameIn_41 : decode cX6_frameIn 41 = .ok (.aconst_null, 1) := by decide +kernel
theorem dX6_frameIn_42 : decode cX6_frameIn 42 = .ok (.areturn, 1) := by decide +kernel
theorem dX6_dropFrameIn_0 : decode cX6_dropFrameIn 0 = .ok (.iconst 0, 1) := by decide +kernel
theorem dX6_dropFrameIn_1 : decode cX6_dropFrameIn 1 = .ok (.istore_n 2, 1) := by decide +kernel
theorem dX6_dropFrameIn_2 : decode cX6_dropFrameIn 2 = .ok (.iload_n 2, 1) := by decide +kernel
theorem dX6_dropFrameIn_3 : decode cX6_dropFrameIn 3 = .ok (.aload_n 0, 1) := by decide +kernel
theorem dX6_dropFrameIn_4 : decode cX6_dropFrameIn 4 = .ok (.getfield 37, 3) := by decide +kernel
theorem dX6_dropFrameIn_7 : decode cX6_dropFrameIn 7 = .ok (.invokevirtual 40, 3) := by decide +kernel
theorem dX6_dropFrameIn_10 : decode cX6_dropFrameIn 10 = .ok (.if_icmp .ge 37, 3) := by decide +kernel
theorem dX6_dropFrameIn_13 : decode cX6_dropFrameIn 13 = .ok (.aload_n 0, 1) := by decide +kernel
theorem dX6_dropFrameIn_14 : decode cX6_dropFrameIn 14 = .ok (.getfield 37, 3) := by decide +kernel
theorem dX6_dropFrameIn_17 : decode cX6_dropFrameIn 17 = .ok (.iload_n 2, 1) := by decide +kernel
theorem dX6_dropFrameIn_18 : decode cX6_dropFrameIn 18 = .ok (.invokevirtual 53, 3) := by decide +kernel
theorem dX6_dropFrameIn_21 : decode cX6_dropFrameIn 21 = .ok (.checkcast 57, 3) := by decide +kernel
theorem dX6_dropFrameIn_24 : decode cX6_dropFrameIn 24 = .ok (.getfield 59, 3) := by decide +kernel
theorem dX6_dropFrameIn_27 : decode cX6_dropFrameIn 27 = .ok (.iload_n 1, 1) := by decide +kernel
theorem dX6_dropFrameIn_28 : decode cX6_dropFrameIn 28 = .ok (.if_icmp .ne 13, 3) := by decide +kernel
theorem dX6_dropFrameIn_31 : decode cX6_dropFrameIn 31 = .ok (.aload_n 0, 1) := by decide +kernel
theorem dX6_dropFrameIn_32 : decode cX6_dropFrameIn 32 = .ok (.getfield 37, 3) := by decide +kernel
theorem dX6_dropFrameIn_35 : decode cX6_dropFrameIn 35 = .ok (.iload_n 2, 1) := by decide +kernel
theorem dX6_dropFrameIn_36 : decode cX6_dropFrameIn 36 = .ok (.invokevirtual 62, 3) := by decide +kernel
theorem dX6_dropFrameIn_39 : decode cX6_dropFrameIn 39 = .ok (.pop, 1) := by decide +kernel
theorem dX6_dropFrameIn_40 : decode cX6_dropFrameIn 40 = .ok (.return_, 1) := by decide +kernel
theorem dX6_dropFrameIn_41 : decode cX6_dropFrameIn 41 = .ok (.iinc 2 1, 3) := by decide +kernel
theorem dX6_dropFrameIn_44 : decode cX6_dropFrameIn 44 = .ok (.goto (-42), 3) := by decide +kernel
theorem dX6_dropFrameIn_47 : decode cX6_dropFrameIn 47 = .ok (.return_, 1) := by decide +kernel
theorem dX7_init_0 : decode cX7_init 0 = .ok (.aload_n 0, 1) := by decide +kernel
theorem dX7_init_1 : decode cX7_init 1 = .ok (.invokespecial 1, 3) := by decide +kernel
theorem dX7_init_4 : decode cX7_init 4 = .ok (.aload_n 0, 1) := by decide +kernel
theorem dX7_init_5 : decode cX7_init 5 = .ok (.aload_n 1, 1) := by decide +kernel
theorem dX7_init_6 : decode cX7_init 6 = .ok (.putfield 7, 3) := by decide +kernel
theorem dX7_init_9 : decode cX7_init 9 = .ok (.aload_n 0, 1) := by decide +kernel
theorem dX7_init_10 : decode cX7_init 10 = .ok (.iload_n 2, 1) := by decide +kernel
theorem dX7_init_11 : decode cX7_init 11 = .ok (.putfield 13, 3) := by decide +kernel
theorem dX7_init_14 : decode cX7_init 14 = .ok (.return_, 1) := by decide +kernel
theorem dX8_init_0 : decode cX8_init 0 = .ok (.aload_n 0, 1) := by decide +kernel
theorem dX8_init_1 : decode cX8_init 1 = .ok (.invokespecial 1, 3) := by decide +kernel
theorem dX8_init_4 : decode cX8_init 4 = .ok (.aload_n 0, 1) := by decide +kernel
theorem dX8_init_5 : decode cX8_init 5 = .ok (.iload_n 1, 1) := by decide +kernel
theorem dX8_init_6 : decode cX8_init 6 = .ok (.putfield 7, 3) := by decide +kernel
theorem dX8_init_9 : decode cX8_init 9 = .ok (.aload_n 0, 1) := by decide +kernel
theorem dX8_init_10 : decode cX8_init 10 = .ok (.lload_n 2, 1) := by decide +kernel
theorem dX8_init_11 : decode cX8_init 11 = .ok (.putfield 13, 3) := by decide +kernel
theorem dX8_init_14 : decode cX8_init 14 = .ok (.return_, 1) := by decide +kernel
theorem dX9_init_0 : decode cX9_init 0 = .ok (.aload_n 0, 1) := by decide +kernel
theorem dX9_init_1 : decode cX9_init 1 = .ok (.invokespecial 1, 3) := by decide +kernel
theorem dX9_init_4 : decode cX9_init 4 = .ok (.aload_n 0, 1) := by decide +kernel
theorem dX9_init_5 : decode cX9_init 5 = .ok (.new 7, 3) := by decide +kernel
theorem dX9_init_8 : decode cX9_init 8 = .ok (.dup, 1) := by decide +kernel
theorem dX9_init_9 : decode cX9_init 9 = .ok (.iconst 3, 1) := by decide +kernel
theorem dX9_init_10 : decode cX9_init 10 = .ok (.lconst 0, 1) := by decide +kernel
theorem dX9_init_11 : decode cX9_init 11 = .ok (.invokespecial 11, 3) := by decide +kernel
theorem dX9_init_14 : decode cX9_init 14 = .ok (.putfield 14, 3) := by decide +kernel
theorem dX9_init_17 : decode cX9_init 17 = .ok (.aload_n 0, 1) := by decide +kernel
theorem dX9_init_18 : decode cX9_init 18 = .ok (.new 18, 3) := by decide +kernel
theorem dX9_init_21 : decode cX9_init 21 = .ok (.dup, 1) := by decide +kernel
theorem dX9_init_22 : decode cX9_init 22 = .ok (.invokespecial 20, 3) := by decide +kernel
theorem dX9_init_25 : decode cX9_init 25 = .ok (.putfield 21, 3) := by decide +kernel
theorem dX9_init_28 : decode cX9_init 28 = .ok (.aload_n 0, 1) := by decide +kernel
theorem dX9_init_29 : decode cX9_init 29 = .ok (.new 25, 3) := by decide +kernel
theorem dX9_init_32 : decode cX9_init 32 = .ok (.dup, 1) := by decide +kernel
theorem dX9_init_33 : decode cX9_init 33 = .ok (.aload_n 0, 1) := by decide +kernel
theorem dX9_init_34 : decode cX9_init 34 = .ok (.getfield 14, 3) := by decide +kernel
theorem dX9_init_37 : decode cX9_init 37 = .ok (.invokespecial 27, 3) := by decide +kernel
theorem dX9_init_40 : decode cX9_init 40 = .ok (.putfield 30, 3) := by decide +kernel
theorem dX9_init_43 : decode cX9_init 43 = .ok (.aload_n 0, 1) := by decide +kernel
theorem dX9_init_44 : decode cX9_init 44 = .ok (.new 18, 3) := by decide +kernel
theorem dX9_init_47 : decode cX9_init 47 = .ok (.dup, 1) := by decide +kernel
theorem dX9_init_48 : decode cX9_init 48 = .ok (.invokespecial 20, 3) := by decide +kernel
theorem dX9_init_51 : decode cX9_init 51 = .ok (.putfield 34, 3) := by decide +kernel
theorem dX9_init_54 : decode cX9_init 54 = .ok (.aload_n 0, 1) := by decide +kernel
theorem dX9_init_55 : decode cX9_init 55 = .ok (.new 37, 3) := by decide +kernel
theorem dX9_init_58 : decode cX9_init 58 = .ok (.dup, 1) := by decide +kernel
theorem dX9_init_59 : decode cX9_init 59 = .ok (.invokespecial 39, 3) := by decide +kernel
theorem dX9_init_62 : decode cX9_init 62 = .ok (.putfield 40, 3) := by decide +kernel
theorem dX9_init_65 : decode cX9_init 65 = .ok (.aload_n 0, 1) := by decide +kernel
theorem dX9_init_66 : decode cX9_init 66 = .ok (.new 44, 3) := by decide +kernel
theorem dX9_init_69 : decode cX9_init 69 = .ok (.dup, 1) := by decide +kernel
theorem dX9_init_70 : decode cX9_init 70 = .ok (.aload_n 0, 1) := by decide +kernel
theorem dX9_init_71 : decode cX9_init 71 = .ok (.getfield 14, 3) := by decide +kernel
theorem dX9_init_74 : decode cX9_init 74 = .ok (.invokespecial 46, 3) := by decide +kernel
theorem dX9_init_77 : decode cX9_init 77 = .ok (.putfield 47, 3) := by decide +kernel
theorem dX9_init_80 : decode cX9_init 80 = .ok (.aload_n 0, 1) := by decide +kernel
theorem dX9_init_81 : decode cX9_init 81 = .ok (.new 18, 3) := by decide +kernel
theorem dX9_init_84 : decode cX9_init 84 = .ok (.dup, 1) := by decide +kernel
theorem dX9_init_85 : decode cX9_init 85 = .ok (.invokespecial 20, 3) := by decide +kernel
theorem dX9_init_88 : decode cX9_init 88 = .ok (.putfield 51, 3) := by decide +kernel
theorem dX9_init_91 : decode cX9_init 91 = .ok (.return_, 1) := by decide +kernel
theorem dX9_node_0 : decode cX9_node 0 = .ok (.iload_n 1, 1) := by decide +kernel
theorem dX9_node_1 : decode cX9_node 1 = .ok (.ifCond .lt 11, 3) := by decide +kernel
theorem dX9_node_4 : decode cX9_node 4 = .ok (.iload_n 1, 1) := by decide +kernel
theorem dX9_node_5 : decode cX9_node 5 = .ok (.getstatic 54, 3) := by decide +kernel
theorem dX9_node_8 : decode cX9_node 8 = .ok (.arraylength, 1) := by decide +kernel
theorem dX9_node_9 : decode cX9_node 9 = .ok (.if_icmp .lt 13, 3) := by decide +kernel
theorem dX9_node_12 : decode cX9_node 12 = .ok (.new 58, 3) := by decide +kernel
theorem dX9_node_15 : decode cX9_node 15 = .ok (.dup, 1) := by decide +kernel
theorem dX9_node_16 : decode cX9_node 16 = .ok (.ldc 60, 2) := by decide +kernel
theorem dX9_node_18 : decode cX9_node 18 = .ok (.invokespecial 62, 3) := by decide +kernel
theorem dX9_node_21 : decode cX9_node 21 = .ok (.athrow, 1) := by decide +kernel
theorem dX9_node_22 : decode cX9_node 22 = .ok (.aload_n 0, 1) := by decide +kernel
theorem dX9_node_23 : decode cX9_node 23 = .ok (.getfield 21, 3) := by decide +kernel
theorem dX9_node_26 : decode cX9_node 26 = .ok (.invokevirtual 65, 3) := by decide +kernel
theorem dX9_node_29 : decode cX9_node 29 = .ok (.bipush 40, 2) := by decide +kernel
theorem dX9_node_31 : decode cX9_node 31 = .ok (.if_icmp .ge 10, 3) := by decide +kernel
theorem dX9_node_34 : decode cX9_node 34 = .ok (.aload_n 0, 1) := by decide +kernel
theorem dX9_node_35 : decode cX9_node 35 = .ok (.getfield 69, 3) := by decide +kernel
theorem dX9_node_38 : decode cX9_node 38 = .ok (.ifCond .eq 13, 3) := by decide +kernel
theorem dX9_node_41 : decode cX9_node 41 = .ok (.new 73, 3) := by decide +kernel
theorem dX9_node_44 : decode cX9_node 44 = .ok (.dup, 1) := by decide +kernel
theorem dX9_node_45 : decode cX9_node 45 = .ok (.ldc 75, 2) := by decide +kernel
theorem dX9_node_47 : decode cX9_node 47 = .ok (.invokespecial 77, 3) := by decide +kernel
theorem dX9_node_50 : decode cX9_node 50 = .ok (.athrow, 1) := by decide +kernel
theorem dX9_node_51 : decode cX9_node 51 = .ok (.aload_n 0, 1) := by decide +kernel
theorem dX9_node_52 : decode cX9_node 52 = .ok (.getfield 21, 3) := by decide +kernel
theorem dX9_node_55 : decode cX9_node 55 = .ok (.invokevirtual 65, 3) := by decide +kernel
theorem dX9_node_58 : decode cX9_node 58 = .ok (.istore_n 3, 1) := by decide +kernel
theorem dX9_node_59 : decode cX9_node 59 = .ok (.aload_n 0, 1) := by decide +kernel
theorem dX9_node_60 : decode cX9_node 60 = .ok (.getfield 21, 3) := by decide +kernel
theorem dX9_node_63 : decode cX9_node 63 = .ok (.new 78, 3) := by decide +kernel
theorem dX9_node_66 : decode cX9_node 66 = .ok (.dup, 1) := by decide +kernel
theorem dX9_node_67 : decode cX9_node 67 = .ok (.iload_n 3, 1) := by decide +kernel
theorem dX9_node_68 : decode cX9_node 68 = .ok (.iload_n 1, 1) := by decide +kernel
theorem dX9_node_69 : decode cX9_node 69 = .ok (.iload_n 2, 1) := by decide +kernel
theorem dX9_node_70 : decode cX9_node 70 = .ok (.getstatic 54, 3) := by decide +kernel
theorem dX9_node_73 : decode cX9_node 73 = .ok (.iload_n 1, 1) := by decide +kernel
theorem dX9_node_74 : decode cX9_node 74 = .ok (.iaload, 1) := by decide +kernel
theorem dX9_node_75 : decode cX9_node 75 = .ok (.getstatic 80, 3) := by decide +kernel
theorem dX9_node_78 : decode cX9_node 78 = .ok (.iload_n 1, 1) := by decide +kernel
theorem dX9_node_79 : decode cX9_node 79 = .ok (.iaload, 1) := by decide +kernel
theorem dX9_node_80 : decode cX9_node 80 = .ok (.getstatic 83, 3) := by decide +kernel
theorem dX9_node_83 : decode cX9_node 83 = .ok (.iload_n 1, 1) := by decide +kernel
theorem dX9_node_84 : decode cX9_node 84 = .ok (.iaload, 1) := by decide +kernel
theorem dX9_node_85 : decode cX9_node 85 = .ok (.invokespecial 86, 3) := by decide +kernel
theorem dX9_node_88 : decode cX9_node 88 = .ok (.invokevirtual 89, 3) := by decide +kernel
theorem dX9_node_91 : decode cX9_node 91 = .ok (.pop, 1) := by decide +kernel
theorem dX9_node_92 : decode cX9_node 92 = .ok (.iload_n 3, 1) := by decide +kernel
theorem dX9_node_93 : decode cX9_node 93 = .ok (.ireturn, 1) := by decide +kernel
theorem dX9_arc_0 : decode cX9_arc 0 = .ok (.aload_n 0, 1) := by decide +kernel
theorem dX9_arc_1 : decode cX9_arc 1 = .ok (.iload_n 1, 1) := by decide +kernel
theorem dX9_arc_2 : decode cX9_arc 2 = .ok (.invokevirtual 93, 3) := by decide +kernel
theorem dX9_arc_5 : decode cX9_arc 5 = .ok (.astore 5, 2) := by decide +kernel
theorem dX9_arc_7 : decode cX9_arc 7 = .ok (.aload_n 0, 1) := by decide +kernel
theorem dX9_arc_8 : decode cX9_arc 8 = .ok (.iload_n 3, 1) := by decide +kernel
theorem dX9_arc_9 : decode cX9_arc 9 = .ok (.invokevirtual 93, 3) := by decide +kernel
theorem dX9_arc_12 : decode cX9_arc 12 = .ok (.astore 6, 2) := by decide +kernel
theorem dX9_arc_14 : decode cX9_arc 14 = .ok (.aload_n 0, 1) := by decide +kernel
theorem dX9_arc_15 : decode cX9_arc 15 = .ok (.getfield 69, 3) := by decide +kernel
theorem dX9_arc_18 : decode cX9_arc 18 = .ok (.ifCond .ne 13, 3) := by decide +kernel
theorem dX9_arc_21 : decode cX9_arc 21 = .ok (.aload 5, 2) := by decide +kernel
theorem dX9_arc_23 : decode cX9_arc 23 = .ok (.ifnull 8, 3) := by decide +kernel
theorem dX9_arc_26 : decode cX9_arc 26 = .ok (.aload 6, 2) := by decide +kernel
theorem dX9_arc_28 : decode cX9_arc 28 = .ok (.ifnonnull 5, 3) := by decide +kernel
theorem dX9_arc_31 : decode cX9_arc 31 = .ok (.iconst 0, 1) := by decide +kernel
theorem dX9_arc_32 : decode cX9_arc 32 = .ok (.ireturn, 1) := by decide +kernel
theorem dX9_arc_33 : decode cX9_arc 33 = .ok (.aload 5, 2) := by decide +kernel
theorem dX9_arc_35 : decode cX9_arc 35 = .ok (.iload_n 2, 1) := by decide +kernel
theorem dX9_arc_36 : decode cX9_arc 36 = .ok (.invokevirtual 97, 3) := by decide +kernel
theorem dX9_arc_39 : decode cX9_arc 39 = .ok (.ifCond .eq 13, 3) := by decide +kernel
theorem dX9_arc_42 : decode cX9_arc 42 = .ok (.aload 6, 2) := by decide +kernel
theorem dX9_arc_44 : decode cX9_arc 44 = .ok (.iload 4, 2) := by decide +kernel
theorem dX9_arc_46 : decode cX9_arc 46 = .ok (.invokevirtual 101, 3) := by decide +kernel
theorem dX9_arc_49 : decode cX9_arc 49 = .ok (.ifCond .ne 5, 3) := by decide +kernel
theorem dX9_arc_52 : decode cX9_arc 52 = .ok (.iconst 0, 1) := by decide +kernel
theorem dX9_arc_53 : decode cX9_arc 53 = .ok (.ireturn, 1) := by decide +kernel
theorem dX9_arc_54 : decode cX9_arc 54 = .ok (.aload 5, 2) := by decide +kernel
theorem dX9_arc_56 : decode cX9_arc 56 = .ok (.iload_n 2, 1) := by decide +kernel
theorem dX9_arc_57 : decode cX9_arc 57 = .ok (.aload 6, 2) := by decide +kernel
theorem dX9_arc_59 : decode cX9_arc 59 = .ok (.iload 4, 2) := by decide +kernel
theorem dX9_arc_61 : decode cX9_arc 61 = .ok (.invokevirtual 104, 3) := by decide +kernel
theorem dX9_arc_64 : decode cX9_arc 64 = .ok (.ireturn, 1) := by decide +kernel
theorem dX9_token_0 : decode cX9_token 0 = .ok (.aload_n 0, 1) := by decide +kernel
theorem dX9_token_1 : decode cX9_token 1 = .ok (.iload_n 1, 1) := by decide +kernel
theorem dX9_token_2 : decode cX9_token 2 = .ok (.invokevirtual 93, 3) := by decide +kernel
theorem dX9_token_5 : decode cX9_token 5 = .ok (.astore 5, 2) := by decide +kernel
theorem dX9_token_7 : decode cX9_token 7 = .ok (.aload 5, 2) := by decide +kernel
theorem dX9_token_9 : decode cX9_token 9 = .ok (.ifnull 19, 3) := by decide +kernel
theorem dX9_token_12 : decode cX9_token 12 = .ok (.aload 5, 2) := by decide +kernel
theorem dX9_token_14 : decode cX9_token 14 = .ok (.iload_n 2, 1) := by decide +kernel
theorem dX9_token_15 : decode cX9_token 15 = .ok (.invokevirtual 101, 3) := by decide +kernel
theorem dX9_token_18 : decode cX9_token 18 = .ok (.ifCond .eq 10, 3) := by decide +kernel
theorem dX9_token_21 : decode cX9_token 21 = .ok (.aload_n 0, 1) := by decide +kernel
theorem dX9_token_22 : decode cX9_token 22 = .ok (.getfield 108, 3) := by decide +kernel
theorem dX9_token_25 : decode cX9_token 25 = .ok (.ifCond .eq 5, 3) := by decide +kernel
theorem dX9_token_28 : decode cX9_token 28 = .ok (.iconst 0, 1) := by decide +kernel
theorem dX9_token_29 : decode cX9_token 29 = .ok (.ireturn, 1) := by decide +kernel
theorem dX9_token_30 : decode cX9_token 30 = .ok (.aload_n 0, 1) := by decide +kernel
theorem dX9_token_31 : decode cX9_token 31 = .ok (.iconst 1, 1) := by decide +kernel
theorem dX9_token_32 : decode cX9_token 32 = .ok (.putfield 69, 3) := by decide +kernel
theorem dX9_token_35 : decode cX9_token 35 = .ok (.aload_n 0, 1) := by decide +kernel
theorem dX9_token_36 : decode cX9_token 36 = .ok (.aload 5, 2) := by decide +kernel
theorem dX9_token_38 : decode cX9_token 38 = .ok (.iload_n 2, 1) := by decide +kernel
theorem dX9_token_39 : decode cX9_token 39 = .ok (.new 7, 3) := by decide +kernel
theorem dX9_token_42 : decode cX9_token 42 = .ok (.dup, 1) := by decide +kernel
theorem dX9_token_43 : decode cX9_token 43 = .ok (.iconst 0, 1) := by decide +kernel
theorem dX9_token_44 : decode cX9_token 44 = .ok (.lload_n 3, 1) := by decide +kernel
theorem dX9_token_45 : decode cX9_token 45 = .ok (.invokespecial 11, 3) := by decide +kernel
theorem dX9_token_48 : decode cX9_token 48 = .ok (.iconst 0, 1) := by decide +kernel
theorem dX9_token_49 : decode cX9_token 49 = .ok (.invokevirtual 112, 3) := by decide +kernel
theorem dX9_token_52 : decode cX9_token 52 = .ok (.iconst 1, 1) := by decide +kernel
theorem dX9_token_53 : decode cX9_token 53 = .ok (.ireturn, 1) := by decide +kernel
theorem dX9_run_0 : decode cX9_run 0 = .ok (.iload_n 1, 1) := by decide +kernel
theorem dX9_run_1 : decode cX9_run 1 = .ok (.iconst 1, 1) := by decide +kernel
theorem dX9_run_2 : decode cX9_run 2 = .ok (.if_icmp .lt 10, 3) := by decide +kernel
theorem dX9_run_5 : decode cX9_run 5 = .ok (.iload_n 1, 1) := by decide +kernel
theorem dX9_run_6 : decode cX9_run 6 = .ok (.sipush 500, 3) := by decide +kernel
theorem dX9_run_9 : decode cX9_run 9 = .ok (.if_icmp .le 13, 3) := by decide +kernel
theorem dX9_run_12 : decode cX9_run 12 = .ok (.new 58, 3) := by decide +kernel
theorem dX9_run_15 : decode cX9_run 15 = .ok (.dup, 1) := by decide +kernel
theorem dX9_run_16 : decode cX9_run 16 = .ok (.ldc 116, 2) := by decide +kernel
theorem dX9_run_18 : decode cX9_run 18 = .ok (.invokespecial 62, 3) := by decide +kernel
theorem dX9_run_21 : decode cX9_run 21 = .ok (.athrow, 1) := by decide +kernel
theorem dX9_run_22 : decode cX9_run 22 = .ok (.aload_n 0, 1) := by decide +kernel
theorem dX9_run_23 : decode cX9_run 23 = .ok (.getfield 118, 3) := by decide +kernel
theorem dX9_run_26 : decode cX9_run 26 = .ok (.sipush 5000, 3) := by decide +kernel
theorem dX9_run_29 : decode cX9_run 29 = .ok (.if_icmp .lt 13, 3) := by decide +kernel
theorem dX9_run_32 : decode cX9_run 32 = .ok (.new 73, 3) := by decide +kernel
theorem dX9_run_35 : decode cX9_run 35 = .ok (.dup, 1) := by decide +kernel
theorem dX9_run_36 : decode cX9_run 36 = .ok (.ldc 121, 2) := by decide +kernel
theorem dX9_run_38 : decode cX9_run 38 = .ok (.invokespecial 77, 3) := by decide +kernel
theorem dX9_run_41 : decode cX9_run 41 = .ok (.athrow, 1) := by decide +kernel
theorem dX9_run_42 : decode cX9_run 42 = .ok (.lload_n 2, 1) := by decide +kernel
theorem dX9_run_43 : decode cX9_run 43 = .ok (.lstore 4, 2) := by decide +kernel
theorem dX9_run_45 : decode cX9_run 45 = .ok (.iconst 0, 1) := by decide +kernel
theorem dX9_run_46 : decode cX9_run 46 = .ok (.istore 6, 2) := by decide +kernel
theorem dX9_run_48 : decode cX9_run 48 = .ok (.iload 6, 2) := by decide +kernel
theorem dX9_run_50 : decode cX9_run 50 = .ok (.iload_n 1, 1) := by decide +kernel
theorem dX9_run_51 : decode cX9_run 51 = .ok (.if_icmp .ge 102, 3) := by decide +kernel
theorem dX9_run_54 : decode cX9_run 54 = .ok (.aload_n 0, 1) := by decide +kernel
theorem dX9_run_55 : decode cX9_run 55 = .ok (.getfield 108, 3) := by decide +kernel
theorem dX9_run_58 : decode cX9_run 58 = .ok (.ifCond .ne 95, 3) := by decide +kernel
theorem dX9_run_61 : decode cX9_run 61 = .ok (.aload_n 0, 1) := by decide +kernel
theorem dX9_run_62 : decode cX9_run 62 = .ok (.getfield 118, 3) := by decide +kernel
theorem dX9_run_65 : decode cX9_run 65 = .ok (.sipush 5000, 3) := by decide +kernel
theorem dX9_run_68 : decode cX9_run 68 = .ok (.if_icmp .ge 85, 3) := by decide +kernel
theorem dX9_run_71 : decode cX9_run 71 = .ok (.aload_n 0, 1) := by decide +kernel
theorem dX9_run_72 : decode cX9_run 72 = .ok (.getfield 34, 3) := by decide +kernel
theorem dX9_run_75 : decode cX9_run 75 = .ok (.invokevirtual 65, 3) := by decide +kernel
theorem dX9_run_78 : decode cX9_run 78 = .ok (.istore 7, 2) := by decide +kernel
theorem dX9_run_80 : decode cX9_run 80 = .ok (.iload 7, 2) := by decide +kernel
theorem dX9_run_82 : decode cX9_run 82 = .ok (.ifCond .ne 6, 3) := by decide +kernel
theorem dX9_run_85 : decode cX9_run 85 = .ok (.goto 68, 3) := by decide +kernel
theorem dX9_run_88 : decode cX9_run 88 = .ok (.lload 4, 2) := by decide +kernel
theorem dX9_run_90 : decode cX9_run 90 = .ok (.iconst 1, 1) := by decide +kernel
theorem dX9_run_91 : decode cX9_run 91 = .ok (.lushr, 1) := by decide +kernel
theorem dX9_run_92 : decode cX9_run 92 = .ok (.iload 7, 2) := by decide +kernel
theorem dX9_run_94 : decode cX9_run 94 = .ok (.i2l, 1) := by decide +kernel
theorem dX9_run_95 : decode cX9_run 95 = .ok (.lrem, 1) := by decide +kernel
theorem dX9_run_96 : decode cX9_run 96 = .ok (.l2i, 1) := by decide +kernel
theorem dX9_run_97 : decode cX9_run 97 = .ok (.istore 8, 2) := by decide +kernel
theorem dX9_run_99 : decode cX9_run 99 = .ok (.lload 4, 2) := by decide +kernel
theorem dX9_run_101 : decode cX9_run 101 = .ok (.ldc2_w 123, 3) := by decide +kernel
theorem dX9_run_104 : decode cX9_run 104 = .ok (.lmul, 1) := by decide +kernel
theorem dX9_run_105 : decode cX9_run 105 = .ok (.ldc2_w 125, 3) := by decide +kernel
theorem dX9_run_108 : decode cX9_run 108 = .ok (.ladd, 1) := by decide +kernel
theorem dX9_run_109 : decode cX9_run 109 = .ok (.lstore 4, 2) := by decide +kernel
theorem dX9_run_111 : decode cX9_run 111 = .ok (.iinc 6 1, 3) := by decide +kernel
theorem dX9_run_114 : decode cX9_run 114 = .ok (.aload_n 0, 1) := by decide +kernel
theorem dX9_run_115 : decode cX9_run 115 = .ok (.dup, 1) := by decide +kernel
theorem dX9_run_116 : decode cX9_run 116 = .ok (.getfield 127, 3) := by decide +kernel
theorem dX9_run_119 : decode cX9_run 119 = .ok (.iconst 1, 1) := by decide +kernel
theorem dX9_run_120 : decode cX9_run 120 = .ok (.iadd, 1) := by decide +kernel
theorem dX9_run_121 : decode cX9_run 121 = .ok (.putfield 127, 3) := by decide +kernel
theorem dX9_run_124 : decode cX9_run 124 = .ok (.aload_n 0, 1) := by decide +kernel
theorem dX9_run_125 : decode cX9_run 125 = .ok (.dup, 1) := by decide +kernel
theorem dX9_run_126 : decode cX9_run 126 = .ok (.getfield 118, 3) := by decide +kernel
theorem dX9_run_129 : decode cX9_run 129 = .ok (.iconst 1, 1) := by decide +kernel
theorem dX9_run_130 : decode cX9_run 130 = .ok (.iadd, 1) := by decide +kernel
theorem dX9_run_131 : decode cX9_run 131 = .ok (.putfield 118, 3) := by decide +kernel
theorem dX9_run_134 : decode cX9_run 134 = .ok (.aload_n 0, 1) := by decide +kernel
theorem dX9_run_135 : decode cX9_run 135 = .ok (.aload_n 0, 1) := by decide +kernel
theorem dX9_run_136 : decode cX9_run 136 = .ok (.getfield 34, 3) := by decide +kernel
theorem dX9_run_139 : decode cX9_run 139 = .ok (.iload 8, 2) := by decide +kernel
theorem dX9_run_141 : decode cX9_run 141 = .ok (.invokevirtual 130, 3) := by decide +kernel
theorem dX9_run_144 : decode cX9_run 144 = .ok (.checkcast 134, 3) := by decide +kernel
theorem dX9_run_147 : decode cX9_run 147 = .ok (.invokevirtual 136, 3) := by decide +kernel
theorem dX9_run_150 : decode cX9_run 150 = .ok (.goto (-102), 3) := by decide +kernel
theorem dX9_run_153 : decode cX9_run 153 = .ok (.iload 6, 2) := by decide +kernel
theorem dX9_run_155 : decode cX9_run 155 = .ok (.ireturn, 1) := by decide +kernel
theorem dX9_clear_0 : decode cX9_clear 0 = .ok (.iload_n 1, 1) := by decide +kernel
theorem dX9_clear_1 : decode cX9_clear 1 = .ok (.ifCond .eq 10, 3) := by decide +kernel
theorem dX9_clear_4 : decode cX9_clear 4 = .ok (.aload_n 0, 1) := by decide +kernel
theorem dX9_clear_5 : decode cX9_clear 5 = .ok (.getfield 21, 3) := by decide +kernel
theorem dX9_clear_8 : decode cX9_clear 8 = .ok (.invokevirtual 140, 3) := by decide +kernel
theorem dX9_clear_11 : decode cX9_clear 11 = .ok (.iconst 0, 1) := by decide +kernel
theorem dX9_clear_12 : decode cX9_clear 12 = .ok (.istore_n 2, 1) := by decide +kernel
theorem dX9_clear_13 : decode cX9_clear 13 = .ok (.iload_n 2, 1) := by decide +kernel
theorem dX9_clear_14 : decode cX9_clear 14 = .ok (.aload_n 0, 1) := by decide +kernel
theorem dX9_clear_15 : decode cX9_clear 15 = .ok (.getfield 21, 3) := by decide +kernel
theorem dX9_clear_18 : decode cX9_clear 18 = .ok (.invokevirtual 65, 3) := by decide +kernel
theorem dX9_clear_21 : decode cX9_clear 21 = .ok (.if_icmp .ge 26, 3) := by decide +kernel
theorem dX9_clear_24 : decode cX9_clear 24 = .ok (.aload_n 0, 1) := by decide +kernel
theorem dX9_clear_25 : decode cX9_clear 25 = .ok (.getfield 21, 3) := by decide +kernel
theorem dX9_clear_28 : decode cX9_clear 28 = .ok (.iload_n 2, 1) := by decide +kernel
theorem dX9_clear_29 : decode cX9_clear 29 = .ok (.invokevirtual 143, 3) := by decide +kernel
theorem dX9_clear_32 : decode cX9_clear 32 = .ok (.checkcast 78, 3) := by decide +kernel
theorem dX9_clear_35 : decode cX9_clear 35 = .ok (.getfield 146, 3) := by decide +kernel
theorem dX9_clear_38 : decode cX9_clear 38 = .ok (.invokevirtual 140, 3) := by decide +kernel
theorem dX9_clear_41 : decode cX9_clear 41 = .ok (.iinc 2 1, 3) := by decide +kernel
theorem dX9_clear_44 : decode cX9_clear 44 = .ok (.goto (-31), 3) := by decide +kernel
theorem dX9_clear_47 : decode cX9_clear 47 = .ok (.aload_n 0, 1) := by decide +kernel
theorem dX9_clear_48 : decode cX9_clear 48 = .ok (.getfield 34, 3) := by decide +kernel
theorem dX9_clear_51 : decode cX9_clear 51 = .ok (.invokevirtual 140, 3) := by decide +kernel
theorem dX9_clear_54 : decode cX9_clear 54 = .ok (.aload_n 0, 1) := by decide +kernel
theorem dX9_clear_55 : decode cX9_clear 55 = .ok (.getfield 47, 3) := by decide +kernel
theorem dX9_clear_58 : decode cX9_clear 58 = .ok (.invokevirtual 148, 3) := by decide +kernel
theorem dX9_clear_61 : decode cX9_clear 61 = .ok (.aload_n 0, 1) := by decide +kernel
theorem dX9_clear_62 : decode cX9_clear 62 = .ok (.getfield 30, 3) := by decide +kernel
theorem dX9_clear_65 : decode cX9_clear 65 = .ok (.invokevirtual 151, 3) := by decide +kernel
theorem dX9_clear_68 : decode cX9_clear 68 = .ok (.aload_n 0, 1) := by decide +kernel
theorem dX9_clear_69 : decode cX9_clear 69 = .ok (.getfield 40, 3) := by decide +kernel
theorem dX9_clear_72 : decode cX9_clear 72 = .ok (.invokevirtual 154, 3) := by decide +kernel
theorem dX9_clear_75 : decode cX9_clear 75 = .ok (.aload_n 0, 1) := by decide +kernel
theorem dX9_clear_76 : decode cX9_clear 76 = .ok (.getfield 51, 3) := by decide +kernel
theorem dX9_clear_79 : decode cX9_clear 79 = .ok (.invokevirtual 140, 3) := by decide +kernel
theorem dX9_clear_82 : decode cX9_clear 82 = .ok (.aload_n 0, 1) := by decide +kernel
theorem dX9_clear_83 : decode cX9_clear 83 = .ok (.iconst 0, 1) := by decide +kernel
theorem dX9_clear_84 : decode cX9_clear 84 = .ok (.putfield 155, 3) := by decide +kernel
theorem dX9_clear_87 : decode cX9_clear 87 = .ok (.aload_n 0, 1) := by decide +kernel
theorem dX9_clear_88 : decode cX9_clear 88 = .ok (.iconst 0, 1) := by decide +kernel
theorem dX9_clear_89 : decode cX9_clear 89 = .ok (.putfield 158, 3) := by decide +kernel
theorem dX9_clear_92 : decode cX9_clear 92 = .ok (.aload_n 0, 1) := by decide +kernel
theorem dX9_clear_93 : decode cX9_clear 93 = .ok (.iconst 0, 1) := by decide +kernel
theorem dX9_clear_94 : decode cX9_clear 94 = .ok (.putfield 108, 3) := by decide +kernel
theorem dX9_clear_97 : decode cX9_clear 97 = .ok (.aload_n 0, 1) := by decide +kernel
theorem dX9_clear_98 : decode cX9_clear 98 = .ok (.iconst 0, 1) := by decide +kernel
theorem dX9_clear_99 : decode cX9_clear 99 = .ok (.putfield 127, 3) := by decide +kernel
theorem dX9_clear_102 : decode cX9_clear 102 = .ok (.aload_n 0, 1) := by decide +kernel
theorem dX9_clear_103 : decode cX9_clear 103 = .ok (.iconst 0, 1) := by decide +kernel
theorem dX9_clear_104 : decode cX9_clear 104 = .ok (.putfield 69, 3) := by decide +kernel
theorem dX9_clear_107 : decode cX9_clear 107 = .ok (.return_, 1) := by decide +kernel
theorem dX9_ready_0 : decode cX9_ready 0 = .ok (.iload_n 1, 1) := by decide +kernel
theorem dX9_ready_1 : decode cX9_ready 1 = .ok (.ifCond .lt 14, 3) := by decide +kernel
theorem dX9_ready_4 : decode cX9_ready 4 = .ok (.iload_n 1, 1) := by decide +kernel
theorem dX9_ready_5 : decode cX9_ready 5 = .ok (.aload_n 0, 1) := by decide +kernel
theorem dX9_ready_6 : decode cX9_ready 6 = .ok (.getfield 34, 3) := by decide +kernel
theorem dX9_ready_9 : decode cX9_ready 9 = .ok (.invokevirtual 65, 3) := by decide +kernel
theorem dX9_ready_12 : decode cX9_ready 12 = .ok (.if_icmp .lt 5, 3) := by decide +kernel
theorem dX9_ready_15 : decode cX9_ready 15 = .ok (.iconst (-1), 1) := by decide +kernel
theorem dX9_ready_16 : decode cX9_ready 16 = .ok (.ireturn, 1) := by decide +kernel
theorem dX9_ready_17 : decode cX9_ready 17 = .ok (.aload_n 0, 1) := by decide +kernel
theorem dX9_ready_18 : decode cX9_ready 18 = .ok (.getfield 34, 3) := by decide +kernel
theorem dX9_ready_21 : decode cX9_ready 21 = .ok (.iload_n 1, 1) := by decide +kernel
theorem dX9_ready_22 : decode cX9_ready 22 = .ok (.invokevirtual 143, 3) := by decide +kernel
theorem dX9_ready_25 : decode cX9_ready 25 = .ok (.checkcast 134, 3) := by decide +kernel
theorem dX9_ready_28 : decode cX9_ready 28 = .ok (.astore_n 3, 1) := by decide +kernel
theorem dX9_ready_29 : decode cX9_ready 29 = .ok (.iload_n 2, 1) := by decide +kernel
theorem dX9_ready_30 : decode cX9_ready 30 = .ok (.lookupswitch 39 #[(0, 26), (1, 34)], 26) := by decide +kernel
theorem dX9_ready_56 : decode cX9_ready 56 = .ok (.aload_n 3, 1) := by decide +kernel
theorem dX9_ready_57 : decode cX9_ready 57 = .ok (.getfield 161, 3) := by decide +kernel
theorem dX9_ready_60 : decode cX9_ready 60 = .ok (.getfield 165, 3) := by decide +kernel
theorem dX9_ready_63 : decode cX9_ready 63 = .ok (.ireturn, 1) := by decide +kernel
theorem dX9_ready_64 : decode cX9_ready 64 = .ok (.aload_n 3, 1) := by decide +kernel
theorem dX9_ready_65 : decode cX9_ready 65 = .ok (.getfield 168, 3) := by decide +kernel
theorem dX9_ready_68 : decode cX9_ready 68 = .ok (.ireturn, 1) := by decide +kernel
theorem dX9_ready_69 : decode cX9_ready 69 = .ok (.iconst (-1), 1) := by decide +kernel
theorem dX9_ready_70 : decode cX9_ready 70 = .ok (.ireturn, 1) := by decide +kernel
theorem dX9_result_0 : decode cX9_result 0 = .ok (.iload_n 1, 1) := by decide +kernel
theorem dX9_result_1 : decode cX9_result 1 = .ok (.ifCond .lt 23, 3) := by decide +kernel
theorem dX9_result_4 : decode cX9_result 4 = .ok (.iload_n 1, 1) := by decide +kernel
theorem dX9_result_5 : decode cX9_result 5 = .ok (.aload_n 0, 1) := by decide +kernel
theorem dX9_result_6 : decode cX9_result 6 = .ok (.getfield 51, 3) := by decide +kernel
theorem dX9_result_9 : decode cX9_result 9 = .ok (.invokevirtual 65, 3) := by decide +kernel
theorem dX9_result_12 : decode cX9_result 12 = .ok (.if_icmp .ge 12, 3) := by decide +kernel
theorem dX9_result_15 : decode cX9_result 15 = .ok (.iload_n 2, 1) := by decide +kernel
theorem dX9_result_16 : decode cX9_result 16 = .ok (.ifCond .lt 8, 3) := by decide +kernel
theorem dX9_result_19 : decode cX9_result 19 = .ok (.iload_n 2, 1) := by decide +kernel
theorem dX9_result_20 : decode cX9_result 20 = .ok (.iconst 2, 1) := by decide +kernel
theorem dX9_result_21 : decode cX9_result 21 = .ok (.if_icmp .le 13, 3) := by decide +kernel
theorem dX9_result_24 : decode cX9_result 24 = .ok (.new 171, 3) := by decide +kernel
theorem dX9_result_27 : decode cX9_result 27 = .ok (.dup, 1) := by decide +kernel
theorem dX9_result_28 : decode cX9_result 28 = .ok (.ldc 173, 2) := by decide +kernel
theorem dX9_result_30 : decode cX9_result 30 = .ok (.invokespecial 175, 3) := by decide +kernel
theorem dX9_result_33 : decode cX9_result 33 = .ok (.athrow, 1) := by decide +kernel
theorem dX9_result_34 : decode cX9_result 34 = .ok (.aload_n 0, 1) := by decide +kernel
theorem dX9_result_35 : decode cX9_result 35 = .ok (.getfield 51, 3) := by decide +kernel
theorem dX9_result_38 : decode cX9_result 38 = .ok (.iload_n 1, 1) := by decide +kernel
theorem dX9_result_39 : decode cX9_result 39 = .ok (.invokevirtual 143, 3) := by decide +kernel
theorem dX9_result_42 : decode cX9_result 42 = .ok (.checkcast 176, 3) := by decide +kernel
theorem dX9_result_45 : decode cX9_result 45 = .ok (.astore_n 3, 1) := by decide +kernel
theorem dX9_result_46 : decode cX9_result 46 = .ok (.iload_n 2, 1) := by decide +kernel
theorem dX9_result_47 : decode cX9_result 47 = .ok (.lookupswitch 42 #[(0, 25), (1, 34)], 25) := by decide +kernel
theorem dX9_result_72 : decode cX9_result 72 = .ok (.aload_n 3, 1) := by decide +kernel
theorem dX9_result_73 : decode cX9_result 73 = .ok (.getfield 178, 3) := by decide +kernel
theorem dX9_result_76 : decode cX9_result 76 = .ok (.getfield 181, 3) := by decide +kernel
theorem dX9_result_79 : decode cX9_result 79 = .ok (.i2l, 1) := by decide +kernel
theorem dX9_result_80 : decode cX9_result 80 = .ok (.lreturn, 1) := by decide +kernel
theorem dX9_result_81 : decode cX9_result 81 = .ok (.aload_n 3, 1) := by decide +kernel
theorem dX9_result_82 : decode cX9_result 82 = .ok (.getfield 178, 3) := by decide +kernel
theorem dX9_result_85 : decode cX9_result 85 = .ok (.getfield 184, 3) := by decide +kernel
theorem dX9_result_88 : decode cX9_result 88 = .ok (.lreturn, 1) := by decide +kernel
theorem dX9_result_89 : decode cX9_result 89 = .ok (.aload_n 3, 1) := by decide +kernel
theorem dX9_result_90 : decode cX9_result 90 = .ok (.getfield 187, 3) := by decide +kernel
theorem dX9_result_93 : decode cX9_result 93 = .ok (.i2l, 1) := by decide +kernel
theorem dX9_result_94 : decode cX9_result 94 = .ok (.lreturn, 1) := by decide +kernel
theorem dX9_context_0 : decode cX9_context 0 = .ok (.aload_n 0, 1) := by decide +kernel
theorem dX9_context_1 : decode cX9_context 1 = .ok (.getfield 40, 3) := by decide +kernel
theorem dX9_context_4 : decode cX9_context 4 = .ok (.iload_n 1, 1) := by decide +kernel
theorem dX9_context_5 : decode cX9_context 5 = .ok (.invokevirtual 188, 3) := by decide +kernel
theorem dX9_context_8 : decode cX9_context 8 = .ok (.ifCond .eq 12, 3) := by decide +kernel
theorem dX9_context_11 : decode cX9_context 11 = .ok (.iload_n 2, 1) := by decide +kernel
theorem dX9_context_12 : decode cX9_context 12 = .ok (.ifCond .lt 8, 3) := by decide +kernel
theorem dX9_context_15 : decode cX9_context 15 = .ok (.iload_n 2, 1) := by decide +kernel
theorem dX9_context_16 : decode cX9_context 16 = .ok (.iconst 2, 1) := by decide +kernel
theorem dX9_context_17 : decode cX9_context 17 = .ok (.if_icmp .le 13, 3) := by decide +kernel
theorem dX9_context_20 : decode cX9_context 20 = .ok (.new 171, 3) := by decide +kernel
theorem dX9_context_23 : decode cX9_context 23 = .ok (.dup, 1) := by decide +kernel
theorem dX9_context_24 : decode cX9_context 24 = .ok (.ldc 191, 2) := by decide +kernel
theorem dX9_context_26 : decode cX9_context 26 = .ok (.invokespecial 175, 3) := by decide +kernel
theorem dX9_context_29 : decode cX9_context 29 = .ok (.athrow, 1) := by decide +kernel
theorem dX9_context_30 : decode cX9_context 30 = .ok (.iload_n 2, 1) := by decide +kernel
theorem dX9_context_31 : decode cX9_context 31 = .ok (.lookupswitch 45 #[(0, 25), (1, 35)], 25) := by decide +kernel
theorem dX9_context_56 : decode cX9_context 56 = .ok (.aload_n 0, 1) := by decide +kernel
theorem dX9_context_57 : decode cX9_context 57 = .ok (.getfield 40, 3) := by decide +kernel
theorem dX9_context_60 : decode cX9_context 60 = .ok (.getfield 193, 3) := by decide +kernel
theorem dX9_context_63 : decode cX9_context 63 = .ok (.iload_n 1, 1) := by decide +kernel
theorem dX9_context_64 : decode cX9_context 64 = .ok (.iaload, 1) := by decide +kernel
theorem dX9_context_65 : decode cX9_context 65 = .ok (.ireturn, 1) := by decide +kernel
theorem dX9_context_66 : decode cX9_context 66 = .ok (.aload_n 0, 1) := by decide +kernel
theorem dX9_context_67 : decode cX9_context 67 = .ok (.getfield 40, 3) := by decide +kernel
theorem dX9_context_70 : decode cX9_context 70 = .ok (.getfield 196, 3) := by decide +kernel
theorem dX9_context_73 : decode cX9_context 73 = .ok (.iload_n 1, 1) := by decide +kernel
theorem dX9_context_74 : decode cX9_context 74 = .ok (.iaload, 1) := by decide +kernel
theorem dX9_context_75 : decode cX9_context 75 = .ok (.ireturn, 1) := by decide +kernel
theorem dX9_context_76 : decode cX9_context 76 = .ok (.aload_n 0, 1) := by decide +kernel
theorem dX9_context_77 : decode cX9_context 77 = .ok (.getfield 40, 3) := by decide +kernel
theorem dX9_context_80 : decode cX9_context 80 = .ok (.getfield 199, 3) := by decide +kernel
theorem dX9_context_83 : decode cX9_context 83 = .ok (.iload_n 1, 1) := by decide +kernel
theorem dX9_context_84 : decode cX9_context 84 = .ok (.iaload, 1) := by decide +kernel
theorem dX9_context_85 : decode cX9_context 85 = .ok (.ireturn, 1) := by decide +kernel
theorem dX9_cell_0 : decode cX9_cell 0 = .ok (.aload_n 0, 1) := by decide +kernel
theorem dX9_cell_1 : decode cX9_cell 1 = .ok (.getfield 47, 3) := by decide +kernel
theorem dX9_cell_4 : decode cX9_cell 4 = .ok (.iload_n 1, 1) := by decide +kernel
theorem dX9_cell_5 : decode cX9_cell 5 = .ok (.i2l, 1) := by decide +kernel
theorem dX9_cell_6 : decode cX9_cell 6 = .ok (.iload_n 2, 1) := by decide +kernel
theorem dX9_cell_7 : decode cX9_cell 7 = .ok (.i2l, 1) := by decide +kernel
theorem dX9_cell_8 : decode cX9_cell 8 = .ok (.invokevirtual 202, 3) := by decide +kernel
theorem dX9_cell_11 : decode cX9_cell 11 = .ok (.astore 4, 2) := by decide +kernel
theorem dX9_cell_13 : decode cX9_cell 13 = .ok (.aload 4, 2) := by decide +kernel
theorem dX9_cell_15 : decode cX9_cell 15 = .ok (.ifnull 12, 3) := by decide +kernel
theorem dX9_cell_18 : decode cX9_cell 18 = .ok (.iload_n 3, 1) := by decide +kernel
theorem dX9_cell_19 : decode cX9_cell 19 = .ok (.ifCond .lt 8, 3) := by decide +kernel
theorem dX9_cell_22 : decode cX9_cell 22 = .ok (.iload_n 3, 1) := by decide +kernel
theorem dX9_cell_23 : decode cX9_cell 23 = .ok (.iconst 2, 1) := by decide +kernel
theorem dX9_cell_24 : decode cX9_cell 24 = .ok (.if_icmp .le 13, 3) := by decide +kernel
theorem dX9_cell_27 : decode cX9_cell 27 = .ok (.new 171, 3) := by decide +kernel
theorem dX9_cell_30 : decode cX9_cell 30 = .ok (.dup, 1) := by decide +kernel
theorem dX9_cell_31 : decode cX9_cell 31 = .ok (.ldc 206, 2) := by decide +kernel
theorem dX9_cell_33 : decode cX9_cell 33 = .ok (.invokespecial 175, 3) := by decide +kernel
theorem dX9_cell_36 : decode cX9_cell 36 = .ok (.athrow, 1) := by decide +kernel
theorem dX9_cell_37 : decode cX9_cell 37 = .ok (.iload_n 3, 1) := by decide +kernel
theorem dX9_cell_38 : decode cX9_cell 38 = .ok (.lookupswitch 45 #[(0, 26), (1, 36)], 26) := by decide +kernel
theorem dX9_cell_64 : decode cX9_cell 64 = .ok (.aload 4, 2) := by decide +kernel
theorem dX9_cell_66 : decode cX9_cell 66 = .ok (.getfield 208, 3) := by decide +kernel
theorem dX9_cell_69 : decode cX9_cell 69 = .ok (.getfield 181, 3) := by decide +kernel
theorem dX9_cell_72 : decode cX9_cell 72 = .ok (.i2l, 1) := by decide +kernel
theorem dX9_cell_73 : decode cX9_cell 73 = .ok (.lreturn, 1) := by decide +kernel
theorem dX9_cell_74 : decode cX9_cell 74 = .ok (.aload 4, 2) := by decide +kernel
theorem dX9_cell_76 : decode cX9_cell 76 = .ok (.getfield 208, 3) := by decide +kernel
theorem dX9_cell_79 : decode cX9_cell 79 = .ok (.getfield 184, 3) := by decide +kernel
theorem dX9_cell_82 : decode cX9_cell 82 = .ok (.lreturn, 1) := by decide +kernel
theorem dX9_cell_83 : decode cX9_cell 83 = .ok (.aload 4, 2) := by decide +kernel
theorem dX9_cell_85 : decode cX9_cell 85 = .ok (.getfield 211, 3) := by decide +kernel
theorem dX9_cell_88 : decode cX9_cell 88 = .ok (.invokevirtual 65, 3) := by decide +kernel
theorem dX9_cell_91 : decode cX9_cell 91 = .ok (.i2l, 1) := by decide +kernel
theorem dX9_cell_92 : decode cX9_cell 92 = .ok (.lreturn, 1) := by decide +kernel
theorem dX9_waiting_0 : decode cX9_waiting 0 = .ok (.aload_n 0, 1) := by decide +kernel
theorem dX9_waiting_1 : decode cX9_waiting 1 = .ok (.iload_n 1, 1) := by decide +kernel
theorem dX9_waiting_2 : decode cX9_waiting 2 = .ok (.invokevirtual 93, 3) := by decide +kernel
theorem dX9_waiting_5 : decode cX9_waiting 5 = .ok (.astore_n 3, 1) := by decide +kernel
theorem dX9_waiting_6 : decode cX9_waiting 6 = .ok (.aload_n 3, 1) := by decide +kernel
theorem dX9_waiting_7 : decode cX9_waiting 7 = .ok (.ifnull 14, 3) := by decide +kernel
theorem dX9_waiting_10 : decode cX9_waiting 10 = .ok (.aload_n 0, 1) := by decide +kernel
theorem dX9_waiting_11 : decode cX9_waiting 11 = .ok (.getfield 40, 3) := by decide +kernel
theorem dX9_waiting_14 : decode cX9_waiting 14 = .ok (.iload_n 2, 1) := by decide +kernel
theorem dX9_waiting_15 : decode cX9_waiting 15 = .ok (.invokevirtual 188, 3) := by decide +kernel
theorem dX9_waiting_18 : decode cX9_waiting 18 = .ok (.ifCond .ne 5, 3) := by decide +kernel
theorem dX9_waiting_21 : decode cX9_waiting 21 = .ok (.iconst (-1), 1) := by decide +kernel
theorem dX9_waiting_22 : decode cX9_waiting 22 = .ok (.ireturn, 1) := by decide +kernel
theorem dX9_waiting_23 : decode cX9_waiting 23 = .ok (.aload_n 3, 1) := by decide +kernel
theorem dX9_waiting_24 : decode cX9_waiting 24 = .ok (.iload_n 2, 1) := by decide +kernel
theorem dX9_waiting_25 : decode cX9_waiting 25 = .ok (.invokevirtual 214, 3) := by decide +kernel
theorem dX9_waiting_28 : decode cX9_waiting 28 = .ok (.astore 4, 2) := by decide +kernel
theorem dX9_waiting_30 : decode cX9_waiting 30 = .ok (.aload 4, 2) := by decide +kernel
theorem dX9_waiting_32 : decode cX9_waiting 32 = .ok (.ifnonnull 7, 3) := by decide +kernel
theorem dX9_waiting_35 : decode cX9_waiting 35 = .ok (.iconst 0, 1) := by decide +kernel
theorem dX9_waiting_36 : decode cX9_waiting 36 = .ok (.goto 8, 3) := by decide +kernel
theorem dX9_waiting_39 : decode cX9_waiting 39 = .ok (.aload 4, 2) := by decide +kernel
theorem dX9_waiting_41 : decode cX9_waiting 41 = .ok (.getfield 218, 3) := by decide +kernel
theorem dX9_waiting_44 : decode cX9_waiting 44 = .ok (.ireturn, 1) := by decide +kernel
theorem dX9_total_0 : decode cX9_total 0 = .ok (.iload_n 1, 1) := by decide +kernel
theorem dX9_total_1 : decode cX9_total 1 = .ok (.tableswitch 120 0 9 #[55, 63, 71, 76, 84, 92, 100, 105, 110, 115], 55) := by decide +kernel
theorem dX9_total_56 : decode cX9_total 56 = .ok (.aload_n 0, 1) := by decide +kernel
theorem dX9_total_57 : decode cX9_total 57 = .ok (.getfield 21, 3) := by decide +kernel
theorem dX9_total_60 : decode cX9_total 60 = .ok (.invokevirtual 65, 3) := by decide +kernel
theorem dX9_total_63 : decode cX9_total 63 = .ok (.ireturn, 1) := by decide +kernel
theorem dX9_total_64 : decode cX9_total 64 = .ok (.aload_n 0, 1) := by decide +kernel
theorem dX9_total_65 : decode cX9_total 65 = .ok (.getfield 34, 3) := by decide +kernel
theorem dX9_total_68 : decode cX9_total 68 = .ok (.invokevirtual 65, 3) := by decide +kernel
theorem dX9_total_71 : decode cX9_total 71 = .ok (.ireturn, 1) := by decide +kernel
theorem dX9_total_72 : decode cX9_total 72 = .ok (.aload_n 0, 1) := by decide +kernel
theorem dX9_total_73 : decode cX9_total 73 = .ok (.getfield 155, 3) := by decide +kernel
theorem dX9_total_76 : decode cX9_total 76 = .ok (.ireturn, 1) := by decide +kernel
theorem dX9_total_77 : decode cX9_total 77 = .ok (.aload_n 0, 1) := by decide +kernel
theorem dX9_total_78 : decode cX9_total 78 = .ok (.getfield 51, 3) := by decide +kernel
theorem dX9_total_81 : decode cX9_total 81 = .ok (.invokevirtual 65, 3) := by decide +kernel
theorem dX9_total_84 : decode cX9_total 84 = .ok (.ireturn, 1) := by decide +kernel
theorem dX9_total_85 : decode cX9_total 85 = .ok (.aload_n 0, 1) := by decide +kernel
theorem dX9_total_86 : decode cX9_total 86 = .ok (.getfield 40, 3) := by decide +kernel
theorem dX9_total_89 : decode cX9_total 89 = .ok (.getfield 221, 3) := by decide +kernel
theorem dX9_total_92 : decode cX9_total 92 = .ok (.ireturn, 1) := by decide +kernel
theorem dX9_total_93 : decode cX9_total 93 = .ok (.aload_n 0, 1) := by decide +kernel
theorem dX9_total_94 : decode cX9_total 94 = .ok (.getfield 47, 3) := by decide +kernel
theorem dX9_total_97 : decode cX9_total 97 = .ok (.getfield 224, 3) := by decide +kernel
theorem dX9_total_100 : decode cX9_total 100 = .ok (.ireturn, 1) := by decide +kernel
theorem dX9_total_101 : decode cX9_total 101 = .ok (.aload_n 0, 1) := by decide +kernel
theorem dX9_total_102 : decode cX9_total 102 = .ok (.getfield 158, 3) := by decide +kernel
theorem dX9_total_105 : decode cX9_total 105 = .ok (.ireturn, 1) := by decide +kernel
theorem dX9_total_106 : decode cX9_total 106 = .ok (.aload_n 0, 1) := by decide +kernel
theorem dX9_total_107 : decode cX9_total 107 = .ok (.getfield 108, 3) := by decide +kernel
theorem dX9_total_110 : decode cX9_total 110 = .ok (.ireturn, 1) := by decide +kernel
theorem dX9_total_111 : decode cX9_total 111 = .ok (.aload_n 0, 1) := by decide +kernel
theorem dX9_total_112 : decode cX9_total 112 = .ok (.getfield 127, 3) := by decide +kernel
theorem dX9_total_115 : decode cX9_total 115 = .ok (.ireturn, 1) := by decide +kernel
theorem dX9_total_116 : decode cX9_total 116 = .ok (.aload_n 0, 1) := by decide +kernel
theorem dX9_total_117 : decode cX9_total 117 = .ok (.getfield 118, 3) := by decide +kernel
theorem dX9_total_120 : decode cX9_total 120 = .ok (.ireturn, 1) := by decide +kernel
theorem dX9_total_121 : decode cX9_total 121 = .ok (.iconst (-1), 1) := by decide +kernel
theorem dX9_total_122 : decode cX9_total 122 = .ok (.ireturn, 1) := by decide +kernel
theorem dX9_nodeAt_0 : decode cX9_nodeAt 0 = .ok (.iload_n 1, 1) := by decide +kernel
theorem dX9_nodeAt_1 : decode cX9_nodeAt 1 = .ok (.ifCond .lt 14, 3) := by decide +kernel
theorem dX9_nodeAt_4 : decode cX9_nodeAt 4 = .ok (.iload_n 1, 1) := by decide +kernel
theorem dX9_nodeAt_5 : decode cX9_nodeAt 5 = .ok (.aload_n 0, 1) := by decide +kernel
theorem dX9_nodeAt_6 : decode cX9_nodeAt 6 = .ok (.getfield 21, 3) := by decide +kernel
theorem dX9_nodeAt_9 : decode cX9_nodeAt 9 = .ok (.invokevirtual 65, 3) := by decide +kernel
theorem dX9_nodeAt_12 : decode cX9_nodeAt 12 = .ok (.if_icmp .lt 7, 3) := by decide +kernel
theorem dX9_nodeAt_15 : decode cX9_nodeAt 15 = .ok (.aconst_null, 1) := by decide +kernel
theorem dX9_nodeAt_16 : decode cX9_nodeAt 16 = .ok (.goto 14, 3) := by decide +kernel
theorem dX9_nodeAt_19 : decode cX9_nodeAt 19 = .ok (.aload_n 0, 1) := by decide +kernel
theorem dX9_nodeAt_20 : decode cX9_nodeAt 20 = .ok (.getfield 21, 3) := by decide +kernel
theorem dX9_nodeAt_23 : decode cX9_nodeAt 23 = .ok (.iload_n 1, 1) := by decide +kernel
theorem dX9_nodeAt_24 : decode cX9_nodeAt 24 = .ok (.invokevirtual 143, 3) := by decide +kernel
theorem dX9_nodeAt_27 : decode cX9_nodeAt 27 = .ok (.checkcast 78, 3) := by decide +kernel
theorem dX9_nodeAt_30 : decode cX9_nodeAt 30 = .ok (.areturn, 1) := by decide +kernel
theorem dX9_come_0 : decode cX9_come 0 = .ok (.aload_n 0, 1) := by decide +kernel
theorem dX9_come_1 : decode cX9_come 1 = .ok (.getfield 108, 3) := by decide +kernel
theorem dX9_come_4 : decode cX9_come 4 = .ok (.ifCond .eq 4, 3) := by decide +kernel
theorem dX9_come_7 : decode cX9_come 7 = .ok (.return_, 1) := by decide +kernel
theorem dX9_come_8 : decode cX9_come 8 = .ok (.aload_n 1, 1) := by decide +kernel
theorem dX9_come_9 : decode cX9_come 9 = .ok (.iload 4, 2) := by decide +kernel
theorem dX9_come_11 : decode cX9_come 11 = .ok (.invokevirtual 214, 3) := by decide +kernel
theorem dX9_come_14 : decode cX9_come 14 = .ok (.astore 5, 2) := by decide +kernel
theorem dX9_come_16 : decode cX9_come 16 = .ok (.aload 5, 2) := by decide +kernel
theorem dX9_come_18 : decode cX9_come 18 = .ok (.ifnull 18, 3) := by decide +kernel
theorem dX9_come_21 : decode cX9_come 21 = .ok (.aload 5, 2) := by decide +kernel
theorem dX9_come_23 : decode cX9_come 23 = .ok (.iload_n 2, 1) := by decide +kernel
theorem dX9_come_24 : decode cX9_come 24 = .ok (.invokevirtual 227, 3) := by decide +kernel
theorem dX9_come_27 : decode cX9_come 27 = .ok (.ifCond .eq 9, 3) := by decide +kernel
theorem dX9_come_30 : decode cX9_come 30 = .ok (.aload_n 0, 1) := by decide +kernel
theorem dX9_come_31 : decode cX9_come 31 = .ok (.iconst 1, 1) := by decide +kernel
theorem dX9_come_32 : decode cX9_come 32 = .ok (.putfield 108, 3) := by decide +kernel
theorem dX9_come_35 : decode cX9_come 35 = .ok (.return_, 1) := by decide +kernel
theorem dX9_come_36 : decode cX9_come 36 = .ok (.aload_n 0, 1) := by decide +kernel
theorem dX9_come_37 : decode cX9_come 37 = .ok (.getfield 155, 3) := by decide +kernel
theorem dX9_come_40 : decode cX9_come 40 = .ok (.aload_n 0, 1) := by decide +kernel
theorem dX9_come_41 : decode cX9_come 41 = .ok (.getfield 34, 3) := by decide +kernel
theorem dX9_come_44 : decode cX9_come 44 = .ok (.invokevirtual 65, 3) := by decide +kernel
theorem dX9_come_47 : decode cX9_come 47 = .ok (.iadd, 1) := by decide +kernel
theorem dX9_come_48 : decode cX9_come 48 = .ok (.aload_n 0, 1) := by decide +kernel
theorem dX9_come_49 : decode cX9_come 49 = .ok (.getfield 158, 3) := by decide +kernel
theorem dX9_come_52 : decode cX9_come 52 = .ok (.iadd, 1) := by decide +kernel
theorem dX9_come_53 : decode cX9_come 53 = .ok (.sipush 300, 3) := by decide +kernel
theorem dX9_come_56 : decode cX9_come 56 = .ok (.if_icmp .lt 9, 3) := by decide +kernel
theorem dX9_come_59 : decode cX9_come 59 = .ok (.aload_n 0, 1) := by decide +kernel
theorem dX9_come_60 : decode cX9_come 60 = .ok (.iconst 2, 1) := by decide +kernel
theorem dX9_come_61 : decode cX9_come 61 = .ok (.putfield 108, 3) := by decide +kernel
theorem dX9_come_64 : decode cX9_come 64 = .ok (.return_, 1) := by decide +kernel
theorem dX9_come_65 : decode cX9_come 65 = .ok (.aload 5, 2) := by decide +kernel
theorem dX9_come_67 : decode cX9_come 67 = .ok (.ifnonnull 25, 3) := by decide +kernel
theorem dX9_come_70 : decode cX9_come 70 = .ok (.aload_n 0, 1) := by decide +kernel
theorem dX9_come_71 : decode cX9_come 71 = .ok (.getfield 30, 3) := by decide +kernel
theorem dX9_come_74 : decode cX9_come 74 = .ok (.aload_n 1, 1) := by decide +kernel
theorem dX9_come_75 : decode cX9_come 75 = .ok (.iload 4, 2) := by decide +kernel
theorem dX9_come_77 : decode cX9_come 77 = .ok (.invokevirtual 230, 3) := by decide +kernel
theorem dX9_come_80 : decode cX9_come 80 = .ok (.astore 5, 2) := by decide +kernel
theorem dX9_come_82 : decode cX9_come 82 = .ok (.aload_n 1, 1) := by decide +kernel
theorem dX9_come_83 : decode cX9_come 83 = .ok (.getfield 146, 3) := by decide +kernel
theorem dX9_come_86 : decode cX9_come 86 = .ok (.aload 5, 2) := by decide +kernel
theorem dX9_come_88 : decode cX9_come 88 = .ok (.invokevirtual 89, 3) := by decide +kernel
theorem dX9_come_91 : decode cX9_come 91 = .ok (.pop, 1) := by decide +kernel
theorem dX9_come_92 : decode cX9_come 92 = .ok (.aload 5, 2) := by decide +kernel
theorem dX9_come_94 : decode cX9_come 94 = .ok (.iload_n 2, 1) := by decide +kernel
theorem dX9_come_95 : decode cX9_come 95 = .ok (.aload_n 3, 1) := by decide +kernel
theorem dX9_come_96 : decode cX9_come 96 = .ok (.invokevirtual 234, 3) := by decide +kernel
theorem dX9_come_99 : decode cX9_come 99 = .ok (.aload_n 0, 1) := by decide +kernel
theorem dX9_come_100 : decode cX9_come 100 = .ok (.dup, 1) := by decide +kernel
theorem dX9_come_101 : decode cX9_come 101 = .ok (.getfield 155, 3) := by decide +kernel
theorem dX9_come_104 : decode cX9_come 104 = .ok (.iconst 1, 1) := by decide +kernel
theorem dX9_come_105 : decode cX9_come 105 = .ok (.iadd, 1) := by decide +kernel
theorem dX9_come_106 : decode cX9_come 106 = .ok (.putfield 155, 3) := by decide +kernel
theorem dX9_come_109 : decode cX9_come 109 = .ok (.aload 5, 2) := by decide +kernel
theorem dX9_come_111 : decode cX9_come 111 = .ok (.getfield 218, 3) := by decide +kernel
theorem dX9_come_114 : decode cX9_come 114 = .ok (.aload_n 1, 1) := by decide +kernel
theorem dX9_come_115 : decode cX9_come 115 = .ok (.getfield 238, 3) := by decide +kernel
theorem dX9_come_118 : decode cX9_come 118 = .ok (.if_icmp .ne 32, 3) := by decide +kernel
theorem dX9_come_121 : decode cX9_come 121 = .ok (.aload_n 0, 1) := by decide +kernel
theorem dX9_come_122 : decode cX9_come 122 = .ok (.dup, 1) := by decide +kernel
theorem dX9_come_123 : decode cX9_come 123 = .ok (.getfield 155, 3) := by decide +kernel
theorem dX9_come_126 : decode cX9_come 126 = .ok (.aload_n 1, 1) := by decide +kernel
theorem dX9_come_127 : decode cX9_come 127 = .ok (.getfield 238, 3) := by decide +kernel
theorem dX9_come_130 : decode cX9_come 130 = .ok (.isub, 1) := by decide +kernel
theorem dX9_come_131 : decode cX9_come 131 = .ok (.putfield 155, 3) := by decide +kernel
theorem dX9_come_134 : decode cX9_come 134 = .ok (.aload_n 1, 1) := by decide +kernel
theorem dX9_come_135 : decode cX9_come 135 = .ok (.iload 4, 2) := by decide +kernel
theorem dX9_come_137 : decode cX9_come 137 = .ok (.invokevirtual 241, 3) := by decide +kernel
theorem dX9_come_140 : decode cX9_come 140 = .ok (.aload_n 0, 1) := by decide +kernel
theorem dX9_come_141 : decode cX9_come 141 = .ok (.getfield 34, 3) := by decide +kernel
theorem dX9_come_144 : decode cX9_come 144 = .ok (.aload 5, 2) := by decide +kernel
theorem dX9_come_146 : decode cX9_come 146 = .ok (.invokevirtual 89, 3) := by decide +kernel
theorem dX9_come_149 : decode cX9_come 149 = .ok (.pop, 1) := by decide +kernel
theorem dX9_come_150 : decode cX9_come 150 = .ok (.return_, 1) := by decide +kernel
theorem dX9_give_0 : decode cX9_give 0 = .ok (.iconst 0, 1) := by decide +kernel
theorem dX9_give_1 : decode cX9_give 1 = .ok (.istore 4, 2) := by decide +kernel
theorem dX9_give_3 : decode cX9_give 3 = .ok (.iload 4, 2) := by decide +kernel
theorem dX9_give_5 : decode cX9_give 5 = .ok (.aload_n 1, 1) := by decide +kernel
theorem dX9_give_6 : decode cX9_give 6 = .ok (.getfield 245, 3) := by decide +kernel
theorem dX9_give_9 : decode cX9_give 9 = .ok (.invokevirtual 65, 3) := by decide +kernel
theorem dX9_give_12 : decode cX9_give 12 = .ok (.if_icmp .ge 39, 3) := by decide +kernel
theorem dX9_give_15 : decode cX9_give 15 = .ok (.aload_n 1, 1) := by decide +kernel
theorem dX9_give_16 : decode cX9_give 16 = .ok (.getfield 245, 3) := by decide +kernel
theorem dX9_give_19 : decode cX9_give 19 = .ok (.iload 4, 2) := by decide +kernel
theorem dX9_give_21 : decode cX9_give 21 = .ok (.invokevirtual 143, 3) := by decide +kernel
theorem dX9_give_24 : decode cX9_give 24 = .ok (.checkcast 248, 3) := by decide +kernel
theorem dX9_give_27 : decode cX9_give 27 = .ok (.astore 5, 2) := by decide +kernel
theorem dX9_give_29 : decode cX9_give 29 = .ok (.aload_n 0, 1) := by decide +kernel
theorem dX9_give_30 : decode cX9_give 30 = .ok (.aload 5, 2) := by decide +kernel
theorem dX9_give_32 : decode cX9_give 32 = .ok (.getfield 250, 3) := by decide +kernel
theorem dX9_give_35 : decode cX9_give 35 = .ok (.aload 5, 2) := by decide +kernel
theorem dX9_give_37 : decode cX9_give 37 = .ok (.getfield 253, 3) := by decide +kernel
theorem dX9_give_40 : decode cX9_give 40 = .ok (.aload_n 2, 1) := by decide +kernel
theorem dX9_give_41 : decode cX9_give 41 = .ok (.iload_n 3, 1) := by decide +kernel
theorem dX9_give_42 : decode cX9_give 42 = .ok (.invokevirtual 112, 3) := by decide +kernel
theorem dX9_give_45 : decode cX9_give 45 = .ok (.iinc 4 1, 3) := by decide +kernel
theorem dX9_give_48 : decode cX9_give 48 = .ok (.goto (-45), 3) := by decide +kernel
theorem dX9_give_51 : decode cX9_give 51 = .ok (.return_, 1) := by decide +kernel
theorem dX9_giveOnSide_0 : decode cX9_giveOnSide 0 = .ok (.iconst 0, 1) := by decide +kernel
theorem dX9_giveOnSide_1 : decode cX9_giveOnSide 1 = .ok (.istore 5, 2) := by decide +kernel
theorem dX9_giveOnSide_3 : decode cX9_giveOnSide 3 = .ok (.iload 5, 2) := by decide +kernel
theorem dX9_giveOnSide_5 : decode cX9_giveOnSide 5 = .ok (.aload_n 1, 1) := by decide +kernel
theorem dX9_giveOnSide_6 : decode cX9_giveOnSide 6 = .ok (.getfield 245, 3) := by decide +kernel
theorem dX9_giveOnSide_9 : decode cX9_giveOnSide 9 = .ok (.invokevirtual 65, 3) := by decide +kernel
theorem dX9_giveOnSide_12 : decode cX9_giveOnSide 12 = .ok (.if_icmp .ge 49, 3) := by decide +kernel
theorem dX9_giveOnSide_15 : decode cX9_giveOnSide 15 = .ok (.aload_n 1, 1) := by decide +kernel
theorem dX9_giveOnSide_16 : decode cX9_giveOnSide 16 = .ok (.getfield 245, 3) := by decide +kernel
theorem dX9_giveOnSide_19 : decode cX9_giveOnSide 19 = .ok (.iload 5, 2) := by decide +kernel
theorem dX9_giveOnSide_21 : decode cX9_giveOnSide 21 = .ok (.invokevirtual 143, 3) := by decide +kernel
theorem dX9_giveOnSide_24 : decode cX9_giveOnSide 24 = .ok (.checkcast 248, 3) := by decide +kernel
theorem dX9_giveOnSide_27 : decode cX9_giveOnSide 27 = .ok (.astore 6, 2) := by decide +kernel
theorem dX9_giveOnSide_29 : decode cX9_giveOnSide 29 = .ok (.aload 6, 2) := by decide +kernel
theorem dX9_giveOnSide_31 : decode cX9_giveOnSide 31 = .ok (.getfield 256, 3) := by decide +kernel
theorem dX9_giveOnSide_34 : decode cX9_giveOnSide 34 = .ok (.iload_n 2, 1) := by decide +kernel
theorem dX9_giveOnSide_35 : decode cX9_giveOnSide 35 = .ok (.if_icmp .ne 20, 3) := by decide +kernel
theorem dX9_giveOnSide_38 : decode cX9_giveOnSide 38 = .ok (.aload_n 0, 1) := by decide +kernel
theorem dX9_giveOnSide_39 : decode cX9_giveOnSide 39 = .ok (.aload 6, 2) := by decide +kernel
theorem dX9_giveOnSide_41 : decode cX9_giveOnSide 41 = .ok (.getfield 250, 3) := by decide +kernel
theorem dX9_giveOnSide_44 : decode cX9_giveOnSide 44 = .ok (.aload 6, 2) := by decide +kernel
theorem dX9_giveOnSide_46 : decode cX9_giveOnSide 46 = .ok (.getfield 253, 3) := by decide +kernel
theorem dX9_giveOnSide_49 : decode cX9_giveOnSide 49 = .ok (.aload_n 3, 1) := by decide +kernel
theorem dX9_giveOnSide_50 : decode cX9_giveOnSide 50 = .ok (.iload 4, 2) := by decide +kernel
theorem dX9_giveOnSide_52 : decode cX9_giveOnSide 52 = .ok (.invokevirtual 112, 3) := by decide +kernel
theorem dX9_giveOnSide_55 : decode cX9_giveOnSide 55 = .ok (.iinc 5 1, 3) := by decide +kernel
theorem dX9_giveOnSide_58 : decode cX9_giveOnSide 58 = .ok (.goto (-55), 3) := by decide +kernel
theorem dX9_giveOnSide_61 : decode cX9_giveOnSide 61 = .ok (.return_, 1) := by decide +kernel
theorem dX9_go_0 : decode cX9_go 0 = .ok (.aload_n 1, 1) := by decide +kernel
theorem dX9_go_1 : decode cX9_go 1 = .ok (.getfield 161, 3) := by decide +kernel
theorem dX9_go_4 : decode cX9_go 4 = .ok (.astore_n 2, 1) := by decide +kernel
theorem dX9_go_5 : decode cX9_go 5 = .ok (.aload_n 1, 1) := by decide +kernel
theorem dX9_go_6 : decode cX9_go 6 = .ok (.getfield 168, 3) := by decide +kernel
theorem dX9_go_9 : decode cX9_go 9 = .ok (.istore_n 3, 1) := by decide +kernel
theorem dX9_go_10 : decode cX9_go 10 = .ok (.aload_n 1, 1) := by decide +kernel
theorem dX9_go_11 : decode cX9_go 11 = .ok (.getfield 259, 3) := by decide +kernel
theorem dX9_go_14 : decode cX9_go 14 = .ok (.iconst 0, 1) := by decide +kernel
theorem dX9_go_15 : decode cX9_go 15 = .ok (.aaload, 1) := by decide +kernel
theorem dX9_go_16 : decode cX9_go 16 = .ok (.astore 4, 2) := by decide +kernel
theorem dX9_go_18 : decode cX9_go 18 = .ok (.aload_n 1, 1) := by decide +kernel
theorem dX9_go_19 : decode cX9_go 19 = .ok (.getfield 259, 3) := by decide +kernel
theorem dX9_go_22 : decode cX9_go 22 = .ok (.iconst 1, 1) := by decide +kernel
theorem dX9_go_23 : decode cX9_go 23 = .ok (.aaload, 1) := by decide +kernel
theorem dX9_go_24 : decode cX9_go 24 = .ok (.astore 5, 2) := by decide +kernel
theorem dX9_go_26 : decode cX9_go 26 = .ok (.aload_n 1, 1) := by decide +kernel
theorem dX9_go_27 : decode cX9_go 27 = .ok (.getfield 259, 3) := by decide +kernel
theorem dX9_go_30 : decode cX9_go 30 = .ok (.iconst 2, 1) := by decide +kernel
theorem dX9_go_31 : decode cX9_go 31 = .ok (.aaload, 1) := by decide +kernel
theorem dX9_go_32 : decode cX9_go 32 = .ok (.astore 6, 2) := by decide +kernel
theorem dX9_go_34 : decode cX9_go 34 = .ok (.aload_n 0, 1) := by decide +kernel
theorem dX9_go_35 : decode cX9_go 35 = .ok (.getfield 30, 3) := by decide +kernel
theorem dX9_go_38 : decode cX9_go 38 = .ok (.aload_n 1, 1) := by decide +kernel
theorem dX9_go_39 : decode cX9_go 39 = .ok (.invokevirtual 263, 3) := by decide +kernel
theorem dX9_go_42 : decode cX9_go 42 = .ok (.aload 4, 2) := by decide +kernel
theorem dX9_go_44 : decode cX9_go 44 = .ok (.aload_n 2, 1) := by decide +kernel
theorem dX9_go_45 : decode cX9_go 45 = .ok (.getfield 266, 3) := by decide +kernel
theorem dX9_go_48 : decode cX9_go 48 = .ok (.invokestatic 269, 3) := by decide +kernel
theorem dX9_go_51 : decode cX9_go 51 = .ok (.aload 5, 2) := by decide +kernel
theorem dX9_go_53 : decode cX9_go 53 = .ok (.aload_n 2, 1) := by decide +kernel
theorem dX9_go_54 : decode cX9_go 54 = .ok (.getfield 273, 3) := by decide +kernel
theorem dX9_go_57 : decode cX9_go 57 = .ok (.invokestatic 269, 3) := by decide +kernel
theorem dX9_go_60 : decode cX9_go 60 = .ok (.invokestatic 276, 3) := by decide +kernel
theorem dX9_go_63 : decode cX9_go 63 = .ok (.istore 7, 2) := by decide +kernel
theorem dX9_go_65 : decode cX9_go 65 = .ok (.iload 7, 2) := by decide +kernel
theorem dX9_go_67 : decode cX9_go 67 = .ok (.iconst 5, 1) := by decide +kernel
theorem dX9_go_68 : decode cX9_go 68 = .ok (.if_icmp .eq 21, 3) := by decide +kernel
theorem dX9_go_71 : decode cX9_go 71 = .ok (.aload_n 0, 1) := by decide +kernel
theorem dX9_go_72 : decode cX9_go 72 = .ok (.aload_n 2, 1) := by decide +kernel
theorem dX9_go_73 : decode cX9_go 73 = .ok (.new 7, 3) := by decide +kernel
theorem dX9_go_76 : decode cX9_go 76 = .ok (.dup, 1) := by decide +kernel
theorem dX9_go_77 : decode cX9_go 77 = .ok (.iconst 1, 1) := by decide +kernel
theorem dX9_go_78 : decode cX9_go 78 = .ok (.iload 7, 2) := by decide +kernel
theorem dX9_go_80 : decode cX9_go 80 = .ok (.i2l, 1) := by decide +kernel
theorem dX9_go_81 : decode cX9_go 81 = .ok (.invokespecial 11, 3) := by decide +kernel
theorem dX9_go_84 : decode cX9_go 84 = .ok (.iload_n 3, 1) := by decide +kernel
theorem dX9_go_85 : decode cX9_go 85 = .ok (.invokevirtual 282, 3) := by decide +kernel
theorem dX9_go_88 : decode cX9_go 88 = .ok (.return_, 1) := by decide +kernel
theorem dX9_go_89 : decode cX9_go 89 = .ok (.aload_n 2, 1) := by decide +kernel
theorem dX9_go_90 : decode cX9_go 90 = .ok (.getfield 286, 3) := by decide +kernel
theorem dX9_go_93 : decode cX9_go 93 = .ok (.tableswitch 193 7 17 #[59, 72, 72, 72, 72, 83, 94, 104, 118, 144, 172], 59) := by decide +kernel
theorem dX9_go_152 : decode cX9_go 152 = .ok (.aload_n 0, 1) := by decide +kernel
theorem dX9_go_153 : decode cX9_go 153 = .ok (.aload_n 2, 1) := by decide +kernel
theorem dX9_go_154 : decode cX9_go 154 = .ok (.iload_n 3, 1) := by decide +kernel
theorem dX9_go_155 : decode cX9_go 155 = .ok (.aload 4, 2) := by decide +kernel
theorem dX9_go_157 : decode cX9_go 157 = .ok (.aload 5, 2) := by decide +kernel
theorem dX9_go_159 : decode cX9_go 159 = .ok (.invokevirtual 289, 3) := by decide +kernel
theorem dX9_go_162 : decode cX9_go 162 = .ok (.goto 138, 3) := by decide +kernel
theorem dX9_go_165 : decode cX9_go 165 = .ok (.aload_n 0, 1) := by decide +kernel
theorem dX9_go_166 : decode cX9_go 166 = .ok (.aload_n 2, 1) := by decide +kernel
theorem dX9_go_167 : decode cX9_go 167 = .ok (.iload_n 3, 1) := by decide +kernel
theorem dX9_go_168 : decode cX9_go 168 = .ok (.aload 4, 2) := by decide +kernel
theorem dX9_go_170 : decode cX9_go 170 = .ok (.invokevirtual 293, 3) := by decide +kernel
theorem dX9_go_173 : decode cX9_go 173 = .ok (.goto 127, 3) := by decide +kernel
theorem dX9_go_176 : decode cX9_go 176 = .ok (.aload_n 0, 1) := by decide +kernel
theorem dX9_go_177 : decode cX9_go 177 = .ok (.aload_n 2, 1) := by decide +kernel
theorem dX9_go_178 : decode cX9_go 178 = .ok (.iload_n 3, 1) := by decide +kernel
theorem dX9_go_179 : decode cX9_go 179 = .ok (.aload 4, 2) := by decide +kernel
theorem dX9_go_181 : decode cX9_go 181 = .ok (.invokevirtual 297, 3) := by decide +kernel
theorem dX9_go_184 : decode cX9_go 184 = .ok (.goto 116, 3) := by decide +kernel
theorem dX9_go_187 : decode cX9_go 187 = .ok (.aload_n 0, 1) := by decide +kernel
theorem dX9_go_188 : decode cX9_go 188 = .ok (.iload_n 3, 1) := by decide +kernel
theorem dX9_go_189 : decode cX9_go 189 = .ok (.aload 4, 2) := by decide +kernel
theorem dX9_go_191 : decode cX9_go 191 = .ok (.invokevirtual 300, 3) := by decide +kernel
theorem dX9_go_194 : decode cX9_go 194 = .ok (.goto 106, 3) := by decide +kernel
theorem dX9_go_197 : decode cX9_go 197 = .ok (.aload_n 0, 1) := by decide +kernel
theorem dX9_go_198 : decode cX9_go 198 = .ok (.aload_n 2, 1) := by decide +kernel
theorem dX9_go_199 : decode cX9_go 199 = .ok (.iload_n 3, 1) := by decide +kernel
theorem dX9_go_200 : decode cX9_go 200 = .ok (.aload 4, 2) := by decide +kernel
theorem dX9_go_202 : decode cX9_go 202 = .ok (.getfield 184, 3) := by decide +kernel
theorem dX9_go_205 : decode cX9_go 205 = .ok (.invokevirtual 303, 3) := by decide +kernel
theorem dX9_go_208 : decode cX9_go 208 = .ok (.goto 92, 3) := by decide +kernel
theorem dX9_go_211 : decode cX9_go 211 = .ok (.aload_n 0, 1) := by decide +kernel
theorem dX9_go_212 : decode cX9_go 212 = .ok (.aload_n 2, 1) := by decide +kernel
theorem dX9_go_213 : decode cX9_go 213 = .ok (.iload_n 3, 1) := by decide +kernel
theorem dX9_go_214 : decode cX9_go 214 = .ok (.aload_n 0, 1) := by decide +kernel
theorem dX9_go_215 : decode cX9_go 215 = .ok (.getfield 47, 3) := by decide +kernel
theorem dX9_go_218 : decode cX9_go 218 = .ok (.aload 4, 2) := by decide +kernel
theorem dX9_go_220 : decode cX9_go 220 = .ok (.getfield 184, 3) := by decide +kernel
theorem dX9_go_223 : decode cX9_go 223 = .ok (.aload 5, 2) := by decide +kernel
theorem dX9_go_225 : decode cX9_go 225 = .ok (.getfield 184, 3) := by decide +kernel
theorem dX9_go_228 : decode cX9_go 228 = .ok (.invokevirtual 202, 3) := by decide +kernel
theorem dX9_go_231 : decode cX9_go 231 = .ok (.invokevirtual 307, 3) := by decide +kernel
theorem dX9_go_234 : decode cX9_go 234 = .ok (.goto 66, 3) := by decide +kernel
theorem dX9_go_237 : decode cX9_go 237 = .ok (.aload_n 0, 1) := by decide +kernel
theorem dX9_go_238 : decode cX9_go 238 = .ok (.aload_n 2, 1) := by decide +kernel
theorem dX9_go_239 : decode cX9_go 239 = .ok (.iload_n 3, 1) := by decide +kernel
theorem dX9_go_240 : decode cX9_go 240 = .ok (.aload_n 0, 1) := by decide +kernel
theorem dX9_go_241 : decode cX9_go 241 = .ok (.getfield 47, 3) := by decide +kernel
theorem dX9_go_244 : decode cX9_go 244 = .ok (.aload 4, 2) := by decide +kernel
theorem dX9_go_246 : decode cX9_go 246 = .ok (.getfield 184, 3) := by decide +kernel
theorem dX9_go_249 : decode cX9_go 249 = .ok (.aload 5, 2) := by decide +kernel
theorem dX9_go_251 : decode cX9_go 251 = .ok (.getfield 184, 3) := by decide +kernel
theorem dX9_go_254 : decode cX9_go 254 = .ok (.invokevirtual 202, 3) := by decide +kernel
theorem dX9_go_257 : decode cX9_go 257 = .ok (.aload 6, 2) := by decide +kernel
theorem dX9_go_259 : decode cX9_go 259 = .ok (.invokevirtual 311, 3) := by decide +kernel
theorem dX9_go_262 : decode cX9_go 262 = .ok (.goto 38, 3) := by decide +kernel
theorem dX9_go_265 : decode cX9_go 265 = .ok (.aload_n 0, 1) := by decide +kernel
theorem dX9_go_266 : decode cX9_go 266 = .ok (.getfield 51, 3) := by decide +kernel
theorem dX9_go_269 : decode cX9_go 269 = .ok (.new 176, 3) := by decide +kernel
theorem dX9_go_272 : decode cX9_go 272 = .ok (.dup, 1) := by decide +kernel
theorem dX9_go_273 : decode cX9_go 273 = .ok (.aload 4, 2) := by decide +kernel
theorem dX9_go_275 : decode cX9_go 275 = .ok (.iload_n 3, 1) := by decide +kernel
theorem dX9_go_276 : decode cX9_go 276 = .ok (.invokespecial 315, 3) := by decide +kernel
theorem dX9_go_279 : decode cX9_go 279 = .ok (.invokevirtual 89, 3) := by decide +kernel
theorem dX9_go_282 : decode cX9_go 282 = .ok (.pop, 1) := by decide +kernel
theorem dX9_go_283 : decode cX9_go 283 = .ok (.goto 17, 3) := by decide +kernel
theorem dX9_go_286 : decode cX9_go 286 = .ok (.aload_n 0, 1) := by decide +kernel
theorem dX9_go_287 : decode cX9_go 287 = .ok (.aload_n 2, 1) := by decide +kernel
theorem dX9_go_288 : decode cX9_go 288 = .ok (.aload_n 2, 1) := by decide +kernel
theorem dX9_go_289 : decode cX9_go 289 = .ok (.aload 4, 2) := by decide +kernel
theorem dX9_go_291 : decode cX9_go 291 = .ok (.aload 5, 2) := by decide +kernel
theorem dX9_go_293 : decode cX9_go 293 = .ok (.invokestatic 318, 3) := by decide +kernel
theorem dX9_go_296 : decode cX9_go 296 = .ok (.iload_n 3, 1) := by decide +kernel
theorem dX9_go_297 : decode cX9_go 297 = .ok (.invokevirtual 282, 3) := by decide +kernel
theorem dX9_go_300 : decode cX9_go 300 = .ok (.return_, 1) := by decide +kernel
theorem dX9_errorOf_0 : decode cX9_errorOf 0 = .ok (.iload_n 1, 1) := by decide +kernel
theorem dX9_errorOf_1 : decode cX9_errorOf 1 = .ok (.ifCond .ne 5, 3) := by decide +kernel
theorem dX9_errorOf_4 : decode cX9_errorOf 4 = .ok (.iconst 5, 1) := by decide +kernel
theorem dX9_errorOf_5 : decode cX9_errorOf 5 = .ok (.ireturn, 1) := by decide +kernel
theorem dX9_errorOf_6 : decode cX9_errorOf 6 = .ok (.aload_n 0, 1) := by decide +kernel
theorem dX9_errorOf_7 : decode cX9_errorOf 7 = .ok (.getfield 181, 3) := by decide +kernel
theorem dX9_errorOf_10 : decode cX9_errorOf 10 = .ok (.iconst 1, 1) := by decide +kernel
theorem dX9_errorOf_11 : decode cX9_errorOf 11 = .ok (.if_icmp .ne 9, 3) := by decide +kernel
theorem dX9_errorOf_14 : decode cX9_errorOf 14 = .ok (.aload_n 0, 1) := by decide +kernel
theorem dX9_errorOf_15 : decode cX9_errorOf 15 = .ok (.getfield 184, 3) := by decide +kernel
theorem dX9_errorOf_18 : decode cX9_errorOf 18 = .ok (.l2i, 1) := by decide +kernel
theorem dX9_errorOf_19 : decode cX9_errorOf 19 = .ok (.ireturn, 1) := by decide +kernel
theorem dX9_errorOf_20 : decode cX9_errorOf 20 = .ok (.iload_n 1, 1) := by decide +kernel
theorem dX9_errorOf_21 : decode cX9_errorOf 21 = .ok (.iconst 2, 1) := by decide +kernel
theorem dX9_errorOf_22 : decode cX9_errorOf 22 = .ok (.if_icmp .ne 12, 3) := by decide +kernel
theorem dX9_errorOf_25 : decode cX9_errorOf 25 = .ok (.aload_n 0, 1) := by decide +kernel
theorem dX9_errorOf_26 : decode cX9_errorOf 26 = .ok (.getfield 181, 3) := by decide +kernel
theorem dX9_errorOf_29 : decode cX9_errorOf 29 = .ok (.ifCond .eq 5, 3) := by decide +kernel
theorem dX9_errorOf_32 : decode cX9_errorOf 32 = .ok (.iconst 4, 1) := by decide +kernel
theorem dX9_errorOf_33 : decode cX9_errorOf 33 = .ok (.ireturn, 1) := by decide +kernel
theorem dX9_errorOf_34 : decode cX9_errorOf 34 = .ok (.iload_n 1, 1) := by decide +kernel
theorem dX9_errorOf_35 : decode cX9_errorOf 35 = .ok (.iconst 3, 1) := by decide +kernel
theorem dX9_errorOf_36 : decode cX9_errorOf 36 = .ok (.if_icmp .ne 13, 3) := by decide +kernel
theorem dX9_errorOf_39 : decode cX9_errorOf 39 = .ok (.aload_n 0, 1) := by decide +kernel
theorem dX9_errorOf_40 : decode cX9_errorOf 40 = .ok (.getfield 181, 3) := by decide +kernel
theorem dX9_errorOf_43 : decode cX9_errorOf 43 = .ok (.iconst 2, 1) := by decide +kernel
theorem dX9_errorOf_44 : decode cX9_errorOf 44 = .ok (.if_icmp .eq 5, 3) := by decide +kernel
theorem dX9_errorOf_47 : decode cX9_errorOf 47 = .ok (.iconst 4, 1) := by decide +kernel
theorem dX9_errorOf_48 : decode cX9_errorOf 48 = .ok (.ireturn, 1) := by decide +kernel
theorem dX9_errorOf_49 : decode cX9_errorOf 49 = .ok (.iconst 5, 1) := by decide +kernel
theorem dX9_errorOf_50 : decode cX9_errorOf 50 = .ok (.ireturn, 1) := by decide +kernel
theorem dX9_reckoned_0 : decode cX9_reckoned 0 = .ok (.aload_n 0, 1) := by decide +kernel
theorem dX9_reckoned_1 : decode cX9_reckoned 1 = .ok (.getfield 286, 3) := by decide +kernel
theorem dX9_reckoned_4 : decode cX9_reckoned 4 = .ok (.tableswitch 150 0 6 #[150, 44, 62, 80, 98, 110, 136], 44) := by decide +kernel
theorem dX9_reckoned_48 : decode cX9_reckoned 48 = .ok (.new 7, 3) := by decide +kernel
theorem dX9_reckoned_51 : decode cX9_reckoned 51 = .ok (.dup, 1) := by decide +kernel
theorem dX9_reckoned_52 : decode cX9_reckoned 52 = .ok (.iconst 0, 1) := by decide +kernel
theorem dX9_reckoned_53 : decode cX9_reckoned 53 = .ok (.aload_n 1, 1) := by decide +kernel
theorem dX9_reckoned_54 : decode cX9_reckoned 54 = .ok (.getfield 184, 3) := by decide +kernel
theorem dX9_reckoned_57 : decode cX9_reckoned 57 = .ok (.aload_n 2, 1) := by decide +kernel
theorem dX9_reckoned_58 : decode cX9_reckoned 58 = .ok (.getfield 184, 3) := by decide +kernel
theorem dX9_reckoned_61 : decode cX9_reckoned 61 = .ok (.ladd, 1) := by decide +kernel
theorem dX9_reckoned_62 : decode cX9_reckoned 62 = .ok (.invokespecial 11, 3) := by decide +kernel
theorem dX9_reckoned_65 : decode cX9_reckoned 65 = .ok (.areturn, 1) := by decide +kernel
theorem dX9_reckoned_66 : decode cX9_reckoned 66 = .ok (.new 7, 3) := by decide +kernel
theorem dX9_reckoned_69 : decode cX9_reckoned 69 = .ok (.dup, 1) := by decide +kernel
theorem dX9_reckoned_70 : decode cX9_reckoned 70 = .ok (.iconst 0, 1) := by decide +kernel
theorem dX9_reckoned_71 : decode cX9_reckoned 71 = .ok (.aload_n 1, 1) := by decide +kernel
theorem dX9_reckoned_72 : decode cX9_reckoned 72 = .ok (.getfield 184, 3) := by decide +kernel
theorem dX9_reckoned_75 : decode cX9_reckoned 75 = .ok (.aload_n 2, 1) := by decide +kernel
theorem dX9_reckoned_76 : decode cX9_reckoned 76 = .ok (.getfield 184, 3) := by decide +kernel
theorem dX9_reckoned_79 : decode cX9_reckoned 79 = .ok (.lsub, 1) := by decide +kernel
theorem dX9_reckoned_80 : decode cX9_reckoned 80 = .ok (.invokespecial 11, 3) := by decide +kernel
theorem dX9_reckoned_83 : decode cX9_reckoned 83 = .ok (.areturn, 1) := by decide +kernel
theorem dX9_reckoned_84 : decode cX9_reckoned 84 = .ok (.new 7, 3) := by decide +kernel
theorem dX9_reckoned_87 : decode cX9_reckoned 87 = .ok (.dup, 1) := by decide +kernel
theorem dX9_reckoned_88 : decode cX9_reckoned 88 = .ok (.iconst 0, 1) := by decide +kernel
theorem dX9_reckoned_89 : decode cX9_reckoned 89 = .ok (.aload_n 1, 1) := by decide +kernel
theorem dX9_reckoned_90 : decode cX9_reckoned 90 = .ok (.getfield 184, 3) := by decide +kernel
theorem dX9_reckoned_93 : decode cX9_reckoned 93 = .ok (.aload_n 2, 1) := by decide +kernel
theorem dX9_reckoned_94 : decode cX9_reckoned 94 = .ok (.getfield 184, 3) := by decide +kernel
theorem dX9_reckoned_97 : decode cX9_reckoned 97 = .ok (.lmul, 1) := by decide +kernel
theorem dX9_reckoned_98 : decode cX9_reckoned 98 = .ok (.invokespecial 11, 3) := by decide +kernel
theorem dX9_reckoned_101 : decode cX9_reckoned 101 = .ok (.areturn, 1) := by decide +kernel
theorem dX9_reckoned_102 : decode cX9_reckoned 102 = .ok (.aload_n 1, 1) := by decide +kernel
theorem dX9_reckoned_103 : decode cX9_reckoned 103 = .ok (.getfield 184, 3) := by decide +kernel
theorem dX9_reckoned_106 : decode cX9_reckoned 106 = .ok (.aload_n 2, 1) := by decide +kernel
theorem dX9_reckoned_107 : decode cX9_reckoned 107 = .ok (.getfield 184, 3) := by decide +kernel
theorem dX9_reckoned_110 : decode cX9_reckoned 110 = .ok (.invokestatic 322, 3) := by decide +kernel
theorem dX9_reckoned_113 : decode cX9_reckoned 113 = .ok (.areturn, 1) := by decide +kernel
theorem dX9_reckoned_114 : decode cX9_reckoned 114 = .ok (.new 7, 3) := by decide +kernel
theorem dX9_reckoned_117 : decode cX9_reckoned 117 = .ok (.dup, 1) := by decide +kernel
theorem dX9_reckoned_118 : decode cX9_reckoned 118 = .ok (.iconst 0, 1) := by decide +kernel
theorem dX9_reckoned_119 : decode cX9_reckoned 119 = .ok (.aload_n 1, 1) := by decide +kernel
theorem dX9_reckoned_120 : decode cX9_reckoned 120 = .ok (.getfield 184, 3) := by decide +kernel
theorem dX9_reckoned_123 : decode cX9_reckoned 123 = .ok (.aload_n 2, 1) := by decide +kernel
theorem dX9_reckoned_124 : decode cX9_reckoned 124 = .ok (.getfield 184, 3) := by decide +kernel
theorem dX9_reckoned_127 : decode cX9_reckoned 127 = .ok (.lcmp, 1) := by decide +kernel
theorem dX9_reckoned_128 : decode cX9_reckoned 128 = .ok (.ifCond .ge 7, 3) := by decide +kernel
theorem dX9_reckoned_131 : decode cX9_reckoned 131 = .ok (.lconst 1, 1) := by decide +kernel
theorem dX9_reckoned_132 : decode cX9_reckoned 132 = .ok (.goto 4, 3) := by decide +kernel
theorem dX9_reckoned_135 : decode cX9_reckoned 135 = .ok (.lconst 0, 1) := by decide +kernel
theorem dX9_reckoned_136 : decode cX9_reckoned 136 = .ok (.invokespecial 11, 3) := by decide +kernel
theorem dX9_reckoned_139 : decode cX9_reckoned 139 = .ok (.areturn, 1) := by decide +kernel
theorem dX9_reckoned_140 : decode cX9_reckoned 140 = .ok (.new 7, 3) := by decide +kernel
theorem dX9_reckoned_143 : decode cX9_reckoned 143 = .ok (.dup, 1) := by decide +kernel
theorem dX9_reckoned_144 : decode cX9_reckoned 144 = .ok (.iconst 0, 1) := by decide +kernel
theorem dX9_reckoned_145 : decode cX9_reckoned 145 = .ok (.aload_n 0, 1) := by decide +kernel
theorem dX9_reckoned_146 : decode cX9_reckoned 146 = .ok (.getfield 326, 3) := by decide +kernel
theorem dX9_reckoned_149 : decode cX9_reckoned 149 = .ok (.i2l, 1) := by decide +kernel
theorem dX9_reckoned_150 : decode cX9_reckoned 150 = .ok (.invokespecial 11, 3) := by decide +kernel
theorem dX9_reckoned_153 : decode cX9_reckoned 153 = .ok (.areturn, 1) := by decide +kernel
theorem dX9_reckoned_154 : decode cX9_reckoned 154 = .ok (.aload_n 1, 1) := by decide +kernel
theorem dX9_reckoned_155 : decode cX9_reckoned 155 = .ok (.areturn, 1) := by decide +kernel
theorem dX9_quotient_0 : decode cX9_quotient 0 = .ok (.lload_n 2, 1) := by decide +kernel
theorem dX9_quotient_1 : decode cX9_quotient 1 = .ok (.lconst 0, 1) := by decide +kernel
theorem dX9_quotient_2 : decode cX9_quotient 2 = .ok (.lcmp, 1) := by decide +kernel
theorem dX9_quotient_3 : decode cX9_quotient 3 = .ok (.ifCond .ne 13, 3) := by decide +kernel
theorem dX9_quotient_6 : decode cX9_quotient 6 = .ok (.new 7, 3) := by decide +kernel
theorem dX9_quotient_9 : decode cX9_quotient 9 = .ok (.dup, 1) := by decide +kernel
theorem dX9_quotient_10 : decode cX9_quotient 10 = .ok (.iconst 1, 1) := by decide +kernel
theorem dX9_quotient_11 : decode cX9_quotient 11 = .ok (.lconst 1, 1) := by decide +kernel
theorem dX9_quotient_12 : decode cX9_quotient 12 = .ok (.invokespecial 11, 3) := by decide +kernel
theorem dX9_quotient_15 : decode cX9_quotient 15 = .ok (.areturn, 1) := by decide +kernel
theorem dX9_quotient_16 : decode cX9_quotient 16 = .ok (.new 7, 3) := by decide +kernel
theorem dX9_quotient_19 : decode cX9_quotient 19 = .ok (.dup, 1) := by decide +kernel
theorem dX9_quotient_20 : decode cX9_quotient 20 = .ok (.iconst 0, 1) := by decide +kernel
theorem dX9_quotient_21 : decode cX9_quotient 21 = .ok (.lload_n 0, 1) := by decide +kernel
theorem dX9_quotient_22 : decode cX9_quotient 22 = .ok (.lload_n 2, 1) := by decide +kernel
theorem dX9_quotient_23 : decode cX9_quotient 23 = .ok (.ldiv, 1) := by decide +kernel
theorem dX9_quotient_24 : decode cX9_quotient 24 = .ok (.invokespecial 11, 3) := by decide +kernel
theorem dX9_quotient_27 : decode cX9_quotient 27 = .ok (.areturn, 1) := by decide +kernel
theorem dX9_choose_0 : decode cX9_choose 0 = .ok (.aload 4, 2) := by decide +kernel
theorem dX9_choose_2 : decode cX9_choose 2 = .ok (.getfield 181, 3) := by decide +kernel
theorem dX9_choose_5 : decode cX9_choose 5 = .ok (.ifCond .ne 26, 3) := by decide +kernel
theorem dX9_choose_8 : decode cX9_choose 8 = .ok (.aload_n 0, 1) := by decide +kernel
theorem dX9_choose_9 : decode cX9_choose 9 = .ok (.aload_n 1, 1) := by decide +kernel
theorem dX9_choose_10 : decode cX9_choose 10 = .ok (.aload 4, 2) := by decide +kernel
theorem dX9_choose_12 : decode cX9_choose 12 = .ok (.getfield 184, 3) := by decide +kernel
theorem dX9_choose_15 : decode cX9_choose 15 = .ok (.lconst 0, 1) := by decide +kernel
theorem dX9_choose_16 : decode cX9_choose 16 = .ok (.lcmp, 1) := by decide +kernel
theorem dX9_choose_17 : decode cX9_choose 17 = .ok (.ifCond .ne 7, 3) := by decide +kernel
theorem dX9_choose_20 : decode cX9_choose 20 = .ok (.iconst 0, 1) := by decide +kernel
theorem dX9_choose_21 : decode cX9_choose 21 = .ok (.goto 4, 3) := by decide +kernel
theorem dX9_choose_24 : decode cX9_choose 24 = .ok (.iconst 1, 1) := by decide +kernel
theorem dX9_choose_25 : decode cX9_choose 25 = .ok (.aload_n 3, 1) := by decide +kernel
theorem dX9_choose_26 : decode cX9_choose 26 = .ok (.iload_n 2, 1) := by decide +kernel
theorem dX9_choose_27 : decode cX9_choose 27 = .ok (.invokevirtual 329, 3) := by decide +kernel
theorem dX9_choose_30 : decode cX9_choose 30 = .ok (.return_, 1) := by decide +kernel
theorem dX9_choose_31 : decode cX9_choose 31 = .ok (.aload 4, 2) := by decide +kernel
theorem dX9_choose_33 : decode cX9_choose 33 = .ok (.getfield 181, 3) := by decide +kernel
theorem dX9_choose_36 : decode cX9_choose 36 = .ok (.iconst 1, 1) := by decide +kernel
theorem dX9_choose_37 : decode cX9_choose 37 = .ok (.if_icmp .ne 8, 3) := by decide +kernel
theorem dX9_choose_40 : decode cX9_choose 40 = .ok (.aload 4, 2) := by decide +kernel
theorem dX9_choose_42 : decode cX9_choose 42 = .ok (.goto 14, 3) := by decide +kernel
theorem dX9_choose_45 : decode cX9_choose 45 = .ok (.new 7, 3) := by decide +kernel
theorem dX9_choose_48 : decode cX9_choose 48 = .ok (.dup, 1) := by decide +kernel
theorem dX9_choose_49 : decode cX9_choose 49 = .ok (.iconst 1, 1) := by decide +kernel
theorem dX9_choose_50 : decode cX9_choose 50 = .ok (.ldc2_w 332, 3) := by decide +kernel
theorem dX9_choose_53 : decode cX9_choose 53 = .ok (.invokespecial 11, 3) := by decide +kernel
theorem dX9_choose_56 : decode cX9_choose 56 = .ok (.astore 5, 2) := by decide +kernel
theorem dX9_choose_58 : decode cX9_choose 58 = .ok (.aload_n 0, 1) := by decide +kernel
theorem dX9_choose_59 : decode cX9_choose 59 = .ok (.aload_n 1, 1) := by decide +kernel
theorem dX9_choose_60 : decode cX9_choose 60 = .ok (.iconst 0, 1) := by decide +kernel
theorem dX9_choose_61 : decode cX9_choose 61 = .ok (.aload 5, 2) := by decide +kernel
end
section
theorem dX9_choose_63 : decode cX9_choose 63 = .ok (.iload_n 2, 1) := by decide +kernel
theorem dX9_choose_64 : decode cX9_choose 64 = .ok (.invokevirtual 329, 3) := by decide +kernel
theorem dX9_choose_67 : decode cX9_choose 67 = .ok (.aload_n 0, 1) := by decide +kernel
theorem dX9_choose_68 : decode cX9_choose 68 = .ok (.aload_n 1, 1) := by decide +kernel
theorem dX9_choose_69 : decode cX9_choose 69 = .ok (.iconst 1, 1) := by decide +kernel
theorem dX9_choose_70 : decode cX9_choose 70 = .ok (.aload 5, 2) := by decide +kernel
theorem dX9_choose_72 : decode cX9_choose 72 = .ok (.iload_n 2, 1) := by decide +kernel
theorem dX9_choose_73 : decode cX9_choose 73 = .ok (.invokevirtual 329, 3) := by decide +kernel
theorem dX9_choose_76 : decode cX9_choose 76 = .ok (.return_, 1) := by decide +kernel
theorem dX9_move_0 : decode cX9_move 0 = .ok (.aload_n 0, 1) := by decide +kernel
theorem dX9_move_1 : decode cX9_move 1 = .ok (.aload_n 1, 1) := by decide +kernel
theorem dX9_move_2 : decode cX9_move 2 = .ok (.iload_n 2, 1) := by decide +kernel
theorem dX9_move_3 : decode cX9_move 3 = .ok (.invokevirtual 334, 3) := by decide +kernel
theorem dX9_move_6 : decode cX9_move 6 = .ok (.istore 4, 2) := by decide +kernel
theorem dX9_move_8 : decode cX9_move 8 = .ok (.iload 4, 2) := by decide +kernel
theorem dX9_move_10 : decode cX9_move 10 = .ok (.iconst (-1), 1) := by decide +kernel
theorem dX9_move_11 : decode cX9_move 11 = .ok (.if_icmp .ne 11, 3) := by decide +kernel
theorem dX9_move_14 : decode cX9_move 14 = .ok (.aload_n 0, 1) := by decide +kernel
theorem dX9_move_15 : decode cX9_move 15 = .ok (.iconst 2, 1) := by decide +kernel
theorem dX9_move_16 : decode cX9_move 16 = .ok (.putfield 108, 3) := by decide +kernel
theorem dX9_move_19 : decode cX9_move 19 = .ok (.goto 11, 3) := by decide +kernel
theorem dX9_move_22 : decode cX9_move 22 = .ok (.aload_n 0, 1) := by decide +kernel
theorem dX9_move_23 : decode cX9_move 23 = .ok (.aload_n 1, 1) := by decide +kernel
theorem dX9_move_24 : decode cX9_move 24 = .ok (.aload_n 3, 1) := by decide +kernel
theorem dX9_move_25 : decode cX9_move 25 = .ok (.iload 4, 2) := by decide +kernel
theorem dX9_move_27 : decode cX9_move 27 = .ok (.invokevirtual 282, 3) := by decide +kernel
theorem dX9_move_30 : decode cX9_move 30 = .ok (.return_, 1) := by decide +kernel
theorem dX9_contextBehind_0 : decode cX9_contextBehind 0 = .ok (.aload_n 1, 1) := by decide +kernel
theorem dX9_contextBehind_1 : decode cX9_contextBehind 1 = .ok (.getfield 286, 3) := by decide +kernel
theorem dX9_contextBehind_4 : decode cX9_contextBehind 4 = .ok (.tableswitch 60 8 10 #[28, 42, 51], 28) := by decide +kernel
theorem dX9_contextBehind_32 : decode cX9_contextBehind 32 = .ok (.aload_n 0, 1) := by decide +kernel
theorem dX9_contextBehind_33 : decode cX9_contextBehind 33 = .ok (.getfield 40, 3) := by decide +kernel
theorem dX9_contextBehind_36 : decode cX9_contextBehind 36 = .ok (.iload_n 2, 1) := by decide +kernel
theorem dX9_contextBehind_37 : decode cX9_contextBehind 37 = .ok (.aload_n 1, 1) := by decide +kernel
theorem dX9_contextBehind_38 : decode cX9_contextBehind 38 = .ok (.getfield 326, 3) := by decide +kernel
theorem dX9_contextBehind_41 : decode cX9_contextBehind 41 = .ok (.iconst 0, 1) := by decide +kernel
theorem dX9_contextBehind_42 : decode cX9_contextBehind 42 = .ok (.invokevirtual 338, 3) := by decide +kernel
theorem dX9_contextBehind_45 : decode cX9_contextBehind 45 = .ok (.ireturn, 1) := by decide +kernel
theorem dX9_contextBehind_46 : decode cX9_contextBehind 46 = .ok (.aload_n 0, 1) := by decide +kernel
theorem dX9_contextBehind_47 : decode cX9_contextBehind 47 = .ok (.getfield 40, 3) := by decide +kernel
theorem dX9_contextBehind_50 : decode cX9_contextBehind 50 = .ok (.iload_n 2, 1) := by decide +kernel
theorem dX9_contextBehind_51 : decode cX9_contextBehind 51 = .ok (.invokevirtual 342, 3) := by decide +kernel
theorem dX9_contextBehind_54 : decode cX9_contextBehind 54 = .ok (.ireturn, 1) := by decide +kernel
theorem dX9_contextBehind_55 : decode cX9_contextBehind 55 = .ok (.aload_n 0, 1) := by decide +kernel
theorem dX9_contextBehind_56 : decode cX9_contextBehind 56 = .ok (.getfield 40, 3) := by decide +kernel
theorem dX9_contextBehind_59 : decode cX9_contextBehind 59 = .ok (.iload_n 2, 1) := by decide +kernel
theorem dX9_contextBehind_60 : decode cX9_contextBehind 60 = .ok (.invokevirtual 346, 3) := by decide +kernel
theorem dX9_contextBehind_63 : decode cX9_contextBehind 63 = .ok (.ireturn, 1) := by decide +kernel
theorem dX9_contextBehind_64 : decode cX9_contextBehind 64 = .ok (.aload_n 0, 1) := by decide +kernel
theorem dX9_contextBehind_65 : decode cX9_contextBehind 65 = .ok (.getfield 40, 3) := by decide +kernel
theorem dX9_contextBehind_68 : decode cX9_contextBehind 68 = .ok (.iload_n 2, 1) := by decide +kernel
theorem dX9_contextBehind_69 : decode cX9_contextBehind 69 = .ok (.invokevirtual 349, 3) := by decide +kernel
theorem dX9_contextBehind_72 : decode cX9_contextBehind 72 = .ok (.ireturn, 1) := by decide +kernel
theorem dX9_enterCall_0 : decode cX9_enterCall 0 = .ok (.aload_n 0, 1) := by decide +kernel
theorem dX9_enterCall_1 : decode cX9_enterCall 1 = .ok (.aload_n 1, 1) := by decide +kernel
theorem dX9_enterCall_2 : decode cX9_enterCall 2 = .ok (.getfield 326, 3) := by decide +kernel
theorem dX9_enterCall_5 : decode cX9_enterCall 5 = .ok (.invokevirtual 93, 3) := by decide +kernel
theorem dX9_enterCall_8 : decode cX9_enterCall 8 = .ok (.astore 4, 2) := by decide +kernel
theorem dX9_enterCall_10 : decode cX9_enterCall 10 = .ok (.aload 4, 2) := by decide +kernel
theorem dX9_enterCall_12 : decode cX9_enterCall 12 = .ok (.ifnonnull 4, 3) := by decide +kernel
theorem dX9_enterCall_15 : decode cX9_enterCall 15 = .ok (.return_, 1) := by decide +kernel
theorem dX9_enterCall_16 : decode cX9_enterCall 16 = .ok (.aload_n 0, 1) := by decide +kernel
theorem dX9_enterCall_17 : decode cX9_enterCall 17 = .ok (.getfield 40, 3) := by decide +kernel
theorem dX9_enterCall_20 : decode cX9_enterCall 20 = .ok (.iload_n 2, 1) := by decide +kernel
theorem dX9_enterCall_21 : decode cX9_enterCall 21 = .ok (.iconst (-1), 1) := by decide +kernel
theorem dX9_enterCall_22 : decode cX9_enterCall 22 = .ok (.aload_n 1, 1) := by decide +kernel
theorem dX9_enterCall_23 : decode cX9_enterCall 23 = .ok (.getfield 165, 3) := by decide +kernel
theorem dX9_enterCall_26 : decode cX9_enterCall 26 = .ok (.isub, 1) := by decide +kernel
theorem dX9_enterCall_27 : decode cX9_enterCall 27 = .ok (.iconst 0, 1) := by decide +kernel
theorem dX9_enterCall_28 : decode cX9_enterCall 28 = .ok (.invokevirtual 338, 3) := by decide +kernel
theorem dX9_enterCall_31 : decode cX9_enterCall 31 = .ok (.istore 5, 2) := by decide +kernel
theorem dX9_enterCall_33 : decode cX9_enterCall 33 = .ok (.iload 5, 2) := by decide +kernel
theorem dX9_enterCall_35 : decode cX9_enterCall 35 = .ok (.iconst (-1), 1) := by decide +kernel
theorem dX9_enterCall_36 : decode cX9_enterCall 36 = .ok (.if_icmp .ne 11, 3) := by decide +kernel
theorem dX9_enterCall_39 : decode cX9_enterCall 39 = .ok (.aload_n 0, 1) := by decide +kernel
theorem dX9_enterCall_40 : decode cX9_enterCall 40 = .ok (.iconst 2, 1) := by decide +kernel
theorem dX9_enterCall_41 : decode cX9_enterCall 41 = .ok (.putfield 108, 3) := by decide +kernel
theorem dX9_enterCall_44 : decode cX9_enterCall 44 = .ok (.goto 13, 3) := by decide +kernel
theorem dX9_enterCall_47 : decode cX9_enterCall 47 = .ok (.aload_n 0, 1) := by decide +kernel
theorem dX9_enterCall_48 : decode cX9_enterCall 48 = .ok (.aload 4, 2) := by decide +kernel
theorem dX9_enterCall_50 : decode cX9_enterCall 50 = .ok (.iconst 0, 1) := by decide +kernel
theorem dX9_enterCall_51 : decode cX9_enterCall 51 = .ok (.aload_n 3, 1) := by decide +kernel
theorem dX9_enterCall_52 : decode cX9_enterCall 52 = .ok (.iload 5, 2) := by decide +kernel
theorem dX9_enterCall_54 : decode cX9_enterCall 54 = .ok (.invokevirtual 112, 3) := by decide +kernel
theorem dX9_enterCall_57 : decode cX9_enterCall 57 = .ok (.return_, 1) := by decide +kernel
theorem dX9_leaveCall_0 : decode cX9_leaveCall 0 = .ok (.aload_n 0, 1) := by decide +kernel
theorem dX9_leaveCall_1 : decode cX9_leaveCall 1 = .ok (.iconst (-1), 1) := by decide +kernel
theorem dX9_leaveCall_2 : decode cX9_leaveCall 2 = .ok (.aload_n 0, 1) := by decide +kernel
theorem dX9_leaveCall_3 : decode cX9_leaveCall 3 = .ok (.getfield 40, 3) := by decide +kernel
theorem dX9_leaveCall_6 : decode cX9_leaveCall 6 = .ok (.iload_n 1, 1) := by decide +kernel
theorem dX9_leaveCall_7 : decode cX9_leaveCall 7 = .ok (.invokevirtual 352, 3) := by decide +kernel
theorem dX9_leaveCall_10 : decode cX9_leaveCall 10 = .ok (.isub, 1) := by decide +kernel
theorem dX9_leaveCall_11 : decode cX9_leaveCall 11 = .ok (.invokevirtual 93, 3) := by decide +kernel
theorem dX9_leaveCall_14 : decode cX9_leaveCall 14 = .ok (.astore_n 3, 1) := by decide +kernel
theorem dX9_leaveCall_15 : decode cX9_leaveCall 15 = .ok (.aload_n 3, 1) := by decide +kernel
theorem dX9_leaveCall_16 : decode cX9_leaveCall 16 = .ok (.ifnull 17, 3) := by decide +kernel
theorem dX9_leaveCall_19 : decode cX9_leaveCall 19 = .ok (.aload_n 0, 1) := by decide +kernel
theorem dX9_leaveCall_20 : decode cX9_leaveCall 20 = .ok (.aload_n 3, 1) := by decide +kernel
theorem dX9_leaveCall_21 : decode cX9_leaveCall 21 = .ok (.aload_n 2, 1) := by decide +kernel
theorem dX9_leaveCall_22 : decode cX9_leaveCall 22 = .ok (.aload_n 0, 1) := by decide +kernel
theorem dX9_leaveCall_23 : decode cX9_leaveCall 23 = .ok (.getfield 40, 3) := by decide +kernel
theorem dX9_leaveCall_26 : decode cX9_leaveCall 26 = .ok (.iload_n 1, 1) := by decide +kernel
theorem dX9_leaveCall_27 : decode cX9_leaveCall 27 = .ok (.invokevirtual 349, 3) := by decide +kernel
theorem dX9_leaveCall_30 : decode cX9_leaveCall 30 = .ok (.invokevirtual 282, 3) := by decide +kernel
theorem dX9_leaveCall_33 : decode cX9_leaveCall 33 = .ok (.return_, 1) := by decide +kernel
theorem dX9_makeArray_0 : decode cX9_makeArray 0 = .ok (.lload_n 3, 1) := by decide +kernel
theorem dX9_makeArray_1 : decode cX9_makeArray 1 = .ok (.lconst 0, 1) := by decide +kernel
theorem dX9_makeArray_2 : decode cX9_makeArray 2 = .ok (.lcmp, 1) := by decide +kernel
theorem dX9_makeArray_3 : decode cX9_makeArray 3 = .ok (.ifCond .lt 11, 3) := by decide +kernel
theorem dX9_makeArray_6 : decode cX9_makeArray 6 = .ok (.lload_n 3, 1) := by decide +kernel
theorem dX9_makeArray_7 : decode cX9_makeArray 7 = .ok (.ldc2_w 355, 3) := by decide +kernel
theorem dX9_makeArray_10 : decode cX9_makeArray 10 = .ok (.lcmp, 1) := by decide +kernel
theorem dX9_makeArray_11 : decode cX9_makeArray 11 = .ok (.ifCond .le 21, 3) := by decide +kernel
theorem dX9_makeArray_14 : decode cX9_makeArray 14 = .ok (.aload_n 0, 1) := by decide +kernel
theorem dX9_makeArray_15 : decode cX9_makeArray 15 = .ok (.aload_n 1, 1) := by decide +kernel
theorem dX9_makeArray_16 : decode cX9_makeArray 16 = .ok (.new 7, 3) := by decide +kernel
theorem dX9_makeArray_19 : decode cX9_makeArray 19 = .ok (.dup, 1) := by decide +kernel
theorem dX9_makeArray_20 : decode cX9_makeArray 20 = .ok (.iconst 1, 1) := by decide +kernel
theorem dX9_makeArray_21 : decode cX9_makeArray 21 = .ok (.ldc2_w 357, 3) := by decide +kernel
theorem dX9_makeArray_24 : decode cX9_makeArray 24 = .ok (.invokespecial 11, 3) := by decide +kernel
theorem dX9_makeArray_27 : decode cX9_makeArray 27 = .ok (.iload_n 2, 1) := by decide +kernel
theorem dX9_makeArray_28 : decode cX9_makeArray 28 = .ok (.invokevirtual 282, 3) := by decide +kernel
theorem dX9_makeArray_31 : decode cX9_makeArray 31 = .ok (.return_, 1) := by decide +kernel
theorem dX9_makeArray_32 : decode cX9_makeArray 32 = .ok (.aload_n 0, 1) := by decide +kernel
theorem dX9_makeArray_33 : decode cX9_makeArray 33 = .ok (.getfield 47, 3) := by decide +kernel
theorem dX9_makeArray_36 : decode cX9_makeArray 36 = .ok (.lload_n 3, 1) := by decide +kernel
theorem dX9_makeArray_37 : decode cX9_makeArray 37 = .ok (.l2i, 1) := by decide +kernel
theorem dX9_makeArray_38 : decode cX9_makeArray 38 = .ok (.invokevirtual 359, 3) := by decide +kernel
theorem dX9_makeArray_41 : decode cX9_makeArray 41 = .ok (.istore 5, 2) := by decide +kernel
theorem dX9_makeArray_43 : decode cX9_makeArray 43 = .ok (.iload 5, 2) := by decide +kernel
theorem dX9_makeArray_45 : decode cX9_makeArray 45 = .ok (.iconst (-1), 1) := by decide +kernel
theorem dX9_makeArray_46 : decode cX9_makeArray 46 = .ok (.if_icmp .ne 11, 3) := by decide +kernel
theorem dX9_makeArray_49 : decode cX9_makeArray 49 = .ok (.aload_n 0, 1) := by decide +kernel
theorem dX9_makeArray_50 : decode cX9_makeArray 50 = .ok (.iconst 2, 1) := by decide +kernel
theorem dX9_makeArray_51 : decode cX9_makeArray 51 = .ok (.putfield 108, 3) := by decide +kernel
theorem dX9_makeArray_54 : decode cX9_makeArray 54 = .ok (.goto 20, 3) := by decide +kernel
theorem dX9_makeArray_57 : decode cX9_makeArray 57 = .ok (.aload_n 0, 1) := by decide +kernel
theorem dX9_makeArray_58 : decode cX9_makeArray 58 = .ok (.aload_n 1, 1) := by decide +kernel
theorem dX9_makeArray_59 : decode cX9_makeArray 59 = .ok (.new 7, 3) := by decide +kernel
theorem dX9_makeArray_62 : decode cX9_makeArray 62 = .ok (.dup, 1) := by decide +kernel
theorem dX9_makeArray_63 : decode cX9_makeArray 63 = .ok (.iconst 2, 1) := by decide +kernel
theorem dX9_makeArray_64 : decode cX9_makeArray 64 = .ok (.iload 5, 2) := by decide +kernel
theorem dX9_makeArray_66 : decode cX9_makeArray 66 = .ok (.i2l, 1) := by decide +kernel
theorem dX9_makeArray_67 : decode cX9_makeArray 67 = .ok (.invokespecial 11, 3) := by decide +kernel
theorem dX9_makeArray_70 : decode cX9_makeArray 70 = .ok (.iload_n 2, 1) := by decide +kernel
theorem dX9_makeArray_71 : decode cX9_makeArray 71 = .ok (.invokevirtual 282, 3) := by decide +kernel
theorem dX9_makeArray_74 : decode cX9_makeArray 74 = .ok (.return_, 1) := by decide +kernel
theorem dX9_fetch_0 : decode cX9_fetch 0 = .ok (.aload_n 3, 1) := by decide +kernel
theorem dX9_fetch_1 : decode cX9_fetch 1 = .ok (.ifnonnull 23, 3) := by decide +kernel
theorem dX9_fetch_4 : decode cX9_fetch 4 = .ok (.aload_n 0, 1) := by decide +kernel
theorem dX9_fetch_5 : decode cX9_fetch 5 = .ok (.aload_n 1, 1) := by decide +kernel
theorem dX9_fetch_6 : decode cX9_fetch 6 = .ok (.new 7, 3) := by decide +kernel
theorem dX9_fetch_9 : decode cX9_fetch 9 = .ok (.dup, 1) := by decide +kernel
theorem dX9_fetch_10 : decode cX9_fetch 10 = .ok (.iconst 1, 1) := by decide +kernel
theorem dX9_fetch_11 : decode cX9_fetch 11 = .ok (.ldc2_w 361, 3) := by decide +kernel
theorem dX9_fetch_14 : decode cX9_fetch 14 = .ok (.invokespecial 11, 3) := by decide +kernel
theorem dX9_fetch_17 : decode cX9_fetch 17 = .ok (.iload_n 2, 1) := by decide +kernel
theorem dX9_fetch_18 : decode cX9_fetch 18 = .ok (.invokevirtual 282, 3) := by decide +kernel
theorem dX9_fetch_21 : decode cX9_fetch 21 = .ok (.goto 50, 3) := by decide +kernel
theorem dX9_fetch_24 : decode cX9_fetch 24 = .ok (.aload_n 3, 1) := by decide +kernel
theorem dX9_fetch_25 : decode cX9_fetch 25 = .ok (.invokevirtual 363, 3) := by decide +kernel
theorem dX9_fetch_28 : decode cX9_fetch 28 = .ok (.ifCond .eq 16, 3) := by decide +kernel
theorem dX9_fetch_31 : decode cX9_fetch 31 = .ok (.aload_n 0, 1) := by decide +kernel
theorem dX9_fetch_32 : decode cX9_fetch 32 = .ok (.aload_n 1, 1) := by decide +kernel
theorem dX9_fetch_33 : decode cX9_fetch 33 = .ok (.aload_n 3, 1) := by decide +kernel
theorem dX9_fetch_34 : decode cX9_fetch 34 = .ok (.getfield 208, 3) := by decide +kernel
theorem dX9_fetch_37 : decode cX9_fetch 37 = .ok (.iload_n 2, 1) := by decide +kernel
theorem dX9_fetch_38 : decode cX9_fetch 38 = .ok (.invokevirtual 282, 3) := by decide +kernel
theorem dX9_fetch_41 : decode cX9_fetch 41 = .ok (.goto 30, 3) := by decide +kernel
theorem dX9_fetch_44 : decode cX9_fetch 44 = .ok (.aload_n 3, 1) := by decide +kernel
theorem dX9_fetch_45 : decode cX9_fetch 45 = .ok (.getfield 211, 3) := by decide +kernel
theorem dX9_fetch_48 : decode cX9_fetch 48 = .ok (.aload_n 0, 1) := by decide +kernel
theorem dX9_fetch_49 : decode cX9_fetch 49 = .ok (.getfield 30, 3) := by decide +kernel
theorem dX9_fetch_52 : decode cX9_fetch 52 = .ok (.aload_n 1, 1) := by decide +kernel
theorem dX9_fetch_53 : decode cX9_fetch 53 = .ok (.iload_n 2, 1) := by decide +kernel
theorem dX9_fetch_54 : decode cX9_fetch 54 = .ok (.invokevirtual 230, 3) := by decide +kernel
theorem dX9_fetch_57 : decode cX9_fetch 57 = .ok (.invokevirtual 89, 3) := by decide +kernel
theorem dX9_fetch_60 : decode cX9_fetch 60 = .ok (.pop, 1) := by decide +kernel
theorem dX9_fetch_61 : decode cX9_fetch 61 = .ok (.aload_n 0, 1) := by decide +kernel
theorem dX9_fetch_62 : decode cX9_fetch 62 = .ok (.dup, 1) := by decide +kernel
theorem dX9_fetch_63 : decode cX9_fetch 63 = .ok (.getfield 158, 3) := by decide +kernel
theorem dX9_fetch_66 : decode cX9_fetch 66 = .ok (.iconst 1, 1) := by decide +kernel
theorem dX9_fetch_67 : decode cX9_fetch 67 = .ok (.iadd, 1) := by decide +kernel
theorem dX9_fetch_68 : decode cX9_fetch 68 = .ok (.putfield 158, 3) := by decide +kernel
theorem dX9_fetch_71 : decode cX9_fetch 71 = .ok (.return_, 1) := by decide +kernel
theorem dX9_store_0 : decode cX9_store 0 = .ok (.aload_n 3, 1) := by decide +kernel
theorem dX9_store_1 : decode cX9_store 1 = .ok (.ifnonnull 21, 3) := by decide +kernel
theorem dX9_store_4 : decode cX9_store 4 = .ok (.aload_n 0, 1) := by decide +kernel
theorem dX9_store_5 : decode cX9_store 5 = .ok (.aload_n 1, 1) := by decide +kernel
theorem dX9_store_6 : decode cX9_store 6 = .ok (.new 7, 3) := by decide +kernel
theorem dX9_store_9 : decode cX9_store 9 = .ok (.dup, 1) := by decide +kernel
theorem dX9_store_10 : decode cX9_store 10 = .ok (.iconst 1, 1) := by decide +kernel
theorem dX9_store_11 : decode cX9_store 11 = .ok (.ldc2_w 361, 3) := by decide +kernel
theorem dX9_store_14 : decode cX9_store 14 = .ok (.invokespecial 11, 3) := by decide +kernel
theorem dX9_store_17 : decode cX9_store 17 = .ok (.iload_n 2, 1) := by decide +kernel
theorem dX9_store_18 : decode cX9_store 18 = .ok (.invokevirtual 282, 3) := by decide +kernel
theorem dX9_store_21 : decode cX9_store 21 = .ok (.return_, 1) := by decide +kernel
theorem dX9_store_22 : decode cX9_store 22 = .ok (.aload_n 3, 1) := by decide +kernel
theorem dX9_store_23 : decode cX9_store 23 = .ok (.invokevirtual 363, 3) := by decide +kernel
theorem dX9_store_26 : decode cX9_store 26 = .ok (.ifCond .eq 9, 3) := by decide +kernel
theorem dX9_store_29 : decode cX9_store 29 = .ok (.aload_n 0, 1) := by decide +kernel
theorem dX9_store_30 : decode cX9_store 30 = .ok (.iconst 3, 1) := by decide +kernel
theorem dX9_store_31 : decode cX9_store 31 = .ok (.putfield 108, 3) := by decide +kernel
theorem dX9_store_34 : decode cX9_store 34 = .ok (.return_, 1) := by decide +kernel
theorem dX9_store_35 : decode cX9_store 35 = .ok (.aload_n 3, 1) := by decide +kernel
theorem dX9_store_36 : decode cX9_store 36 = .ok (.aload 4, 2) := by decide +kernel
theorem dX9_store_38 : decode cX9_store 38 = .ok (.putfield 208, 3) := by decide +kernel
theorem dX9_store_41 : decode cX9_store 41 = .ok (.aload_n 0, 1) := by decide +kernel
theorem dX9_store_42 : decode cX9_store 42 = .ok (.aload_n 1, 1) := by decide +kernel
theorem dX9_store_43 : decode cX9_store 43 = .ok (.aload 4, 2) := by decide +kernel
theorem dX9_store_45 : decode cX9_store 45 = .ok (.iload_n 2, 1) := by decide +kernel
theorem dX9_store_46 : decode cX9_store 46 = .ok (.invokevirtual 282, 3) := by decide +kernel
theorem dX9_store_49 : decode cX9_store 49 = .ok (.aload_n 3, 1) := by decide +kernel
theorem dX9_store_50 : decode cX9_store 50 = .ok (.getfield 211, 3) := by decide +kernel
theorem dX9_store_53 : decode cX9_store 53 = .ok (.invokevirtual 65, 3) := by decide +kernel
theorem dX9_store_56 : decode cX9_store 56 = .ok (.istore 5, 2) := by decide +kernel
theorem dX9_store_58 : decode cX9_store 58 = .ok (.iload 5, 2) := by decide +kernel
theorem dX9_store_60 : decode cX9_store 60 = .ok (.ifCond .le 72, 3) := by decide +kernel
theorem dX9_store_63 : decode cX9_store 63 = .ok (.aload_n 0, 1) := by decide +kernel
theorem dX9_store_64 : decode cX9_store 64 = .ok (.getfield 108, 3) := by decide +kernel
theorem dX9_store_67 : decode cX9_store 67 = .ok (.ifCond .ne 65, 3) := by decide +kernel
theorem dX9_store_70 : decode cX9_store 70 = .ok (.aload_n 3, 1) := by decide +kernel
theorem dX9_store_71 : decode cX9_store 71 = .ok (.getfield 211, 3) := by decide +kernel
theorem dX9_store_74 : decode cX9_store 74 = .ok (.iconst 0, 1) := by decide +kernel
theorem dX9_store_75 : decode cX9_store 75 = .ok (.invokevirtual 130, 3) := by decide +kernel
theorem dX9_store_78 : decode cX9_store 78 = .ok (.checkcast 134, 3) := by decide +kernel
theorem dX9_store_81 : decode cX9_store 81 = .ok (.astore 6, 2) := by decide +kernel
theorem dX9_store_83 : decode cX9_store 83 = .ok (.aload 6, 2) := by decide +kernel
theorem dX9_store_85 : decode cX9_store 85 = .ok (.getfield 161, 3) := by decide +kernel
theorem dX9_store_88 : decode cX9_store 88 = .ok (.astore 7, 2) := by decide +kernel
theorem dX9_store_90 : decode cX9_store 90 = .ok (.aload 6, 2) := by decide +kernel
theorem dX9_store_92 : decode cX9_store 92 = .ok (.getfield 168, 3) := by decide +kernel
theorem dX9_store_95 : decode cX9_store 95 = .ok (.istore 8, 2) := by decide +kernel
theorem dX9_store_97 : decode cX9_store 97 = .ok (.aload_n 0, 1) := by decide +kernel
theorem dX9_store_98 : decode cX9_store 98 = .ok (.dup, 1) := by decide +kernel
theorem dX9_store_99 : decode cX9_store 99 = .ok (.getfield 158, 3) := by decide +kernel
theorem dX9_store_102 : decode cX9_store 102 = .ok (.iconst 1, 1) := by decide +kernel
theorem dX9_store_103 : decode cX9_store 103 = .ok (.isub, 1) := by decide +kernel
theorem dX9_store_104 : decode cX9_store 104 = .ok (.putfield 158, 3) := by decide +kernel
theorem dX9_store_107 : decode cX9_store 107 = .ok (.aload_n 0, 1) := by decide +kernel
theorem dX9_store_108 : decode cX9_store 108 = .ok (.getfield 30, 3) := by decide +kernel
theorem dX9_store_111 : decode cX9_store 111 = .ok (.aload 6, 2) := by decide +kernel
theorem dX9_store_113 : decode cX9_store 113 = .ok (.invokevirtual 263, 3) := by decide +kernel
theorem dX9_store_116 : decode cX9_store 116 = .ok (.aload_n 0, 1) := by decide +kernel
theorem dX9_store_117 : decode cX9_store 117 = .ok (.aload 7, 2) := by decide +kernel
theorem dX9_store_119 : decode cX9_store 119 = .ok (.aload 4, 2) := by decide +kernel
theorem dX9_store_121 : decode cX9_store 121 = .ok (.iload 8, 2) := by decide +kernel
theorem dX9_store_123 : decode cX9_store 123 = .ok (.invokevirtual 282, 3) := by decide +kernel
theorem dX9_store_126 : decode cX9_store 126 = .ok (.iinc 5 (-1), 3) := by decide +kernel
theorem dX9_store_129 : decode cX9_store 129 = .ok (.goto (-71), 3) := by decide +kernel
theorem dX9_store_132 : decode cX9_store 132 = .ok (.return_, 1) := by decide +kernel
theorem dX10_init_0 : decode cX10_init 0 = .ok (.aload_n 0, 1) := by decide +kernel
theorem dX10_init_1 : decode cX10_init 1 = .ok (.invokespecial 1, 3) := by decide +kernel
theorem dX10_init_4 : decode cX10_init 4 = .ok (.aload_n 0, 1) := by decide +kernel
theorem dX10_init_5 : decode cX10_init 5 = .ok (.bipush 40, 2) := by decide +kernel
theorem dX10_init_7 : decode cX10_init 7 = .ok (.newarray .int, 2) := by decide +kernel
theorem dX10_init_9 : decode cX10_init 9 = .ok (.putfield 7, 3) := by decide +kernel
theorem dX10_init_12 : decode cX10_init 12 = .ok (.aload_n 0, 1) := by decide +kernel
theorem dX10_init_13 : decode cX10_init 13 = .ok (.bipush 40, 2) := by decide +kernel
theorem dX10_init_15 : decode cX10_init 15 = .ok (.newarray .int, 2) := by decide +kernel
theorem dX10_init_17 : decode cX10_init 17 = .ok (.putfield 13, 3) := by decide +kernel
theorem dX10_init_20 : decode cX10_init 20 = .ok (.aload_n 0, 1) := by decide +kernel
theorem dX10_init_21 : decode cX10_init 21 = .ok (.bipush 40, 2) := by decide +kernel
theorem dX10_init_23 : decode cX10_init 23 = .ok (.newarray .int, 2) := by decide +kernel
theorem dX10_init_25 : decode cX10_init 25 = .ok (.putfield 16, 3) := by decide +kernel
theorem dX10_init_28 : decode cX10_init 28 = .ok (.aload_n 0, 1) := by decide +kernel
theorem dX10_init_29 : decode cX10_init 29 = .ok (.sipush 240, 3) := by decide +kernel
theorem dX10_init_32 : decode cX10_init 32 = .ok (.newarray .int, 2) := by decide +kernel
theorem dX10_init_34 : decode cX10_init 34 = .ok (.putfield 19, 3) := by decide +kernel
theorem dX10_init_37 : decode cX10_init 37 = .ok (.aload_n 0, 1) := by decide +kernel
theorem dX10_init_38 : decode cX10_init 38 = .ok (.sipush 240, 3) := by decide +kernel
theorem dX10_init_41 : decode cX10_init 41 = .ok (.newarray .int, 2) := by decide +kernel
theorem dX10_init_43 : decode cX10_init 43 = .ok (.putfield 22, 3) := by decide +kernel
theorem dX10_init_46 : decode cX10_init 46 = .ok (.aload_n 0, 1) := by decide +kernel
theorem dX10_init_47 : decode cX10_init 47 = .ok (.sipush 240, 3) := by decide +kernel
theorem dX10_init_50 : decode cX10_init 50 = .ok (.newarray .int, 2) := by decide +kernel
theorem dX10_init_52 : decode cX10_init 52 = .ok (.putfield 25, 3) := by decide +kernel
theorem dX10_init_55 : decode cX10_init 55 = .ok (.aload_n 0, 1) := by decide +kernel
theorem dX10_init_56 : decode cX10_init 56 = .ok (.iconst 1, 1) := by decide +kernel
theorem dX10_init_57 : decode cX10_init 57 = .ok (.putfield 28, 3) := by decide +kernel
theorem dX10_init_60 : decode cX10_init 60 = .ok (.aload_n 0, 1) := by decide +kernel
theorem dX10_init_61 : decode cX10_init 61 = .ok (.sipush 151, 3) := by decide +kernel
theorem dX10_init_64 : decode cX10_init 64 = .ok (.newarray .int, 2) := by decide +kernel
theorem dX10_init_66 : decode cX10_init 66 = .ok (.putfield 32, 3) := by decide +kernel
theorem dX10_init_69 : decode cX10_init 69 = .ok (.aload_n 0, 1) := by decide +kernel
theorem dX10_init_70 : decode cX10_init 70 = .ok (.sipush 151, 3) := by decide +kernel
theorem dX10_init_73 : decode cX10_init 73 = .ok (.newarray .int, 2) := by decide +kernel
theorem dX10_init_75 : decode cX10_init 75 = .ok (.putfield 35, 3) := by decide +kernel
theorem dX10_init_78 : decode cX10_init 78 = .ok (.aload_n 0, 1) := by decide +kernel
theorem dX10_init_79 : decode cX10_init 79 = .ok (.sipush 151, 3) := by decide +kernel
theorem dX10_init_82 : decode cX10_init 82 = .ok (.newarray .int, 2) := by decide +kernel
theorem dX10_init_84 : decode cX10_init 84 = .ok (.putfield 38, 3) := by decide +kernel
theorem dX10_init_87 : decode cX10_init 87 = .ok (.aload_n 0, 1) := by decide +kernel
theorem dX10_init_88 : decode cX10_init 88 = .ok (.bipush 40, 2) := by decide +kernel
theorem dX10_init_90 : decode cX10_init 90 = .ok (.newarray .int, 2) := by decide +kernel
theorem dX10_init_92 : decode cX10_init 92 = .ok (.putfield 41, 3) := by decide +kernel
theorem dX10_init_95 : decode cX10_init 95 = .ok (.aload_n 0, 1) := by decide +kernel
theorem dX10_init_96 : decode cX10_init 96 = .ok (.sipush 320, 3) := by decide +kernel
theorem dX10_init_99 : decode cX10_init 99 = .ok (.newarray .int, 2) := by decide +kernel
theorem dX10_init_101 : decode cX10_init 101 = .ok (.putfield 44, 3) := by decide +kernel
theorem dX10_init_104 : decode cX10_init 104 = .ok (.aload_n 0, 1) := by decide +kernel
theorem dX10_init_105 : decode cX10_init 105 = .ok (.sipush 320, 3) := by decide +kernel
theorem dX10_init_108 : decode cX10_init 108 = .ok (.newarray .long, 2) := by decide +kernel
theorem dX10_init_110 : decode cX10_init 110 = .ok (.putfield 47, 3) := by decide +kernel
theorem dX10_init_113 : decode cX10_init 113 = .ok (.aload_n 0, 1) := by decide +kernel
theorem dX10_init_114 : decode cX10_init 114 = .ok (.sipush 302, 3) := by decide +kernel
theorem dX10_init_117 : decode cX10_init 117 = .ok (.newarray .int, 2) := by decide +kernel
theorem dX10_init_119 : decode cX10_init 119 = .ok (.putfield 51, 3) := by decide +kernel
theorem dX10_init_122 : decode cX10_init 122 = .ok (.aload_n 0, 1) := by decide +kernel
theorem dX10_init_123 : decode cX10_init 123 = .ok (.sipush 302, 3) := by decide +kernel
theorem dX10_init_126 : decode cX10_init 126 = .ok (.newarray .int, 2) := by decide +kernel
theorem dX10_init_128 : decode cX10_init 128 = .ok (.putfield 54, 3) := by decide +kernel
theorem dX10_init_131 : decode cX10_init 131 = .ok (.aload_n 0, 1) := by decide +kernel
theorem dX10_init_132 : decode cX10_init 132 = .ok (.sipush 302, 3) := by decide +kernel
theorem dX10_init_135 : decode cX10_init 135 = .ok (.newarray .int, 2) := by decide +kernel
theorem dX10_init_137 : decode cX10_init 137 = .ok (.putfield 57, 3) := by decide +kernel
theorem dX10_init_140 : decode cX10_init 140 = .ok (.aload_n 0, 1) := by decide +kernel
theorem dX10_init_141 : decode cX10_init 141 = .ok (.sipush 302, 3) := by decide +kernel
theorem dX10_init_144 : decode cX10_init 144 = .ok (.newarray .int, 2) := by decide +kernel
theorem dX10_init_146 : decode cX10_init 146 = .ok (.putfield 60, 3) := by decide +kernel
theorem dX10_init_149 : decode cX10_init 149 = .ok (.aload_n 0, 1) := by decide +kernel
theorem dX10_init_150 : decode cX10_init 150 = .ok (.sipush 302, 3) := by decide +kernel
theorem dX10_init_153 : decode cX10_init 153 = .ok (.newarray .long, 2) := by decide +kernel
theorem dX10_init_155 : decode cX10_init 155 = .ok (.putfield 63, 3) := by decide +kernel
theorem dX10_init_158 : decode cX10_init 158 = .ok (.aload_n 0, 1) := by decide +kernel
theorem dX10_init_159 : decode cX10_init 159 = .ok (.sipush 302, 3) := by decide +kernel
theorem dX10_init_162 : decode cX10_init 162 = .ok (.newarray .int, 2) := by decide +kernel
theorem dX10_init_164 : decode cX10_init 164 = .ok (.putfield 66, 3) := by decide +kernel
theorem dX10_init_167 : decode cX10_init 167 = .ok (.aload_n 0, 1) := by decide +kernel
theorem dX10_init_168 : decode cX10_init 168 = .ok (.sipush 302, 3) := by decide +kernel
theorem dX10_init_171 : decode cX10_init 171 = .ok (.newarray .int, 2) := by decide +kernel
theorem dX10_init_173 : decode cX10_init 173 = .ok (.putfield 69, 3) := by decide +kernel
theorem dX10_init_176 : decode cX10_init 176 = .ok (.aload_n 0, 1) := by decide +kernel
theorem dX10_init_177 : decode cX10_init 177 = .ok (.sipush 906, 3) := by decide +kernel
theorem dX10_init_180 : decode cX10_init 180 = .ok (.newarray .int, 2) := by decide +kernel
theorem dX10_init_182 : decode cX10_init 182 = .ok (.putfield 72, 3) := by decide +kernel
theorem dX10_init_185 : decode cX10_init 185 = .ok (.aload_n 0, 1) := by decide +kernel
theorem dX10_init_186 : decode cX10_init 186 = .ok (.sipush 906, 3) := by decide +kernel
theorem dX10_init_189 : decode cX10_init 189 = .ok (.newarray .long, 2) := by decide +kernel
theorem dX10_init_191 : decode cX10_init 191 = .ok (.putfield 75, 3) := by decide +kernel
theorem dX10_init_194 : decode cX10_init 194 = .ok (.aload_n 0, 1) := by decide +kernel
theorem dX10_init_195 : decode cX10_init 195 = .ok (.sipush 302, 3) := by decide +kernel
theorem dX10_init_198 : decode cX10_init 198 = .ok (.newarray .int, 2) := by decide +kernel
theorem dX10_init_200 : decode cX10_init 200 = .ok (.putfield 78, 3) := by decide +kernel
theorem dX10_init_203 : decode cX10_init 203 = .ok (.aload_n 0, 1) := by decide +kernel
theorem dX10_init_204 : decode cX10_init 204 = .ok (.sipush 302, 3) := by decide +kernel
theorem dX10_init_207 : decode cX10_init 207 = .ok (.newarray .int, 2) := by decide +kernel
theorem dX10_init_209 : decode cX10_init 209 = .ok (.putfield 81, 3) := by decide +kernel
theorem dX10_init_212 : decode cX10_init 212 = .ok (.aload_n 0, 1) := by decide +kernel
theorem dX10_init_213 : decode cX10_init 213 = .ok (.sipush 302, 3) := by decide +kernel
theorem dX10_init_216 : decode cX10_init 216 = .ok (.newarray .int, 2) := by decide +kernel
theorem dX10_init_218 : decode cX10_init 218 = .ok (.putfield 84, 3) := by decide +kernel
theorem dX10_init_221 : decode cX10_init 221 = .ok (.aload_n 0, 1) := by decide +kernel
theorem dX10_init_222 : decode cX10_init 222 = .ok (.sipush 5001, 3) := by decide +kernel
theorem dX10_init_225 : decode cX10_init 225 = .ok (.newarray .int, 2) := by decide +kernel
theorem dX10_init_227 : decode cX10_init 227 = .ok (.putfield 87, 3) := by decide +kernel
theorem dX10_init_230 : decode cX10_init 230 = .ok (.aload_n 0, 1) := by decide +kernel
theorem dX10_init_231 : decode cX10_init 231 = .ok (.sipush 5001, 3) := by decide +kernel
theorem dX10_init_234 : decode cX10_init 234 = .ok (.newarray .long, 2) := by decide +kernel
theorem dX10_init_236 : decode cX10_init 236 = .ok (.putfield 90, 3) := by decide +kernel
theorem dX10_init_239 : decode cX10_init 239 = .ok (.aload_n 0, 1) := by decide +kernel
theorem dX10_init_240 : decode cX10_init 240 = .ok (.sipush 5001, 3) := by decide +kernel
theorem dX10_init_243 : decode cX10_init 243 = .ok (.newarray .int, 2) := by decide +kernel
theorem dX10_init_245 : decode cX10_init 245 = .ok (.putfield 93, 3) := by decide +kernel
theorem dX10_init_248 : decode cX10_init 248 = .ok (.aload_n 0, 1) := by decide +kernel
theorem dX10_init_249 : decode cX10_init 249 = .ok (.iconst 3, 1) := by decide +kernel
theorem dX10_init_250 : decode cX10_init 250 = .ok (.newarray .int, 2) := by decide +kernel
theorem dX10_init_252 : decode cX10_init 252 = .ok (.putfield 96, 3) := by decide +kernel
theorem dX10_init_255 : decode cX10_init 255 = .ok (.aload_n 0, 1) := by decide +kernel
theorem dX10_init_256 : decode cX10_init 256 = .ok (.iconst 3, 1) := by decide +kernel
theorem dX10_init_257 : decode cX10_init 257 = .ok (.newarray .long, 2) := by decide +kernel
theorem dX10_init_259 : decode cX10_init 259 = .ok (.putfield 99, 3) := by decide +kernel
theorem dX10_init_262 : decode cX10_init 262 = .ok (.aload_n 0, 1) := by decide +kernel
theorem dX10_init_263 : decode cX10_init 263 = .ok (.getfield 32, 3) := by decide +kernel
theorem dX10_init_266 : decode cX10_init 266 = .ok (.iconst 0, 1) := by decide +kernel
theorem dX10_init_267 : decode cX10_init 267 = .ok (.iconst (-1), 1) := by decide +kernel
theorem dX10_init_268 : decode cX10_init 268 = .ok (.iastore, 1) := by decide +kernel
theorem dX10_init_269 : decode cX10_init 269 = .ok (.return_, 1) := by decide +kernel
theorem dX10_thrown_0 : decode cX10_thrown 0 = .ok (.aload_n 0, 1) := by decide +kernel
theorem dX10_thrown_1 : decode cX10_thrown 1 = .ok (.getfield 102, 3) := by decide +kernel
theorem dX10_thrown_4 : decode cX10_thrown 4 = .ok (.ireturn, 1) := by decide +kernel
theorem dX10_raise_0 : decode cX10_raise 0 = .ok (.aload_n 0, 1) := by decide +kernel
theorem dX10_raise_1 : decode cX10_raise 1 = .ok (.iload_n 1, 1) := by decide +kernel
theorem dX10_raise_2 : decode cX10_raise 2 = .ok (.putfield 102, 3) := by decide +kernel
theorem dX10_raise_5 : decode cX10_raise 5 = .ok (.iconst 0, 1) := by decide +kernel
theorem dX10_raise_6 : decode cX10_raise 6 = .ok (.ireturn, 1) := by decide +kernel
theorem dX10_ports_0 : decode cX10_ports 0 = .ok (.iload_n 0, 1) := by decide +kernel
theorem dX10_ports_1 : decode cX10_ports 1 = .ok (.iconst 1, 1) := by decide +kernel
theorem dX10_ports_2 : decode cX10_ports 2 = .ok (.if_icmp .lt 8, 3) := by decide +kernel
theorem dX10_ports_5 : decode cX10_ports 5 = .ok (.iload_n 0, 1) := by decide +kernel
theorem dX10_ports_6 : decode cX10_ports 6 = .ok (.iconst 5, 1) := by decide +kernel
theorem dX10_ports_7 : decode cX10_ports 7 = .ok (.if_icmp .le 15, 3) := by decide +kernel
theorem dX10_ports_10 : decode cX10_ports 10 = .ok (.iload_n 0, 1) := by decide +kernel
theorem dX10_ports_11 : decode cX10_ports 11 = .ok (.bipush 7, 2) := by decide +kernel
theorem dX10_ports_13 : decode cX10_ports 13 = .ok (.if_icmp .eq 9, 3) := by decide +kernel
theorem dX10_ports_16 : decode cX10_ports 16 = .ok (.iload_n 0, 1) := by decide +kernel
theorem dX10_ports_17 : decode cX10_ports 17 = .ok (.bipush 15, 2) := by decide +kernel
theorem dX10_ports_19 : decode cX10_ports 19 = .ok (.if_icmp .ne 7, 3) := by decide +kernel
theorem dX10_ports_22 : decode cX10_ports 22 = .ok (.iconst 2, 1) := by decide +kernel
theorem dX10_ports_23 : decode cX10_ports 23 = .ok (.goto 14, 3) := by decide +kernel
theorem dX10_ports_26 : decode cX10_ports 26 = .ok (.iload_n 0, 1) := by decide +kernel
theorem dX10_ports_27 : decode cX10_ports 27 = .ok (.bipush 16, 2) := by decide +kernel
theorem dX10_ports_29 : decode cX10_ports 29 = .ok (.if_icmp .ne 7, 3) := by decide +kernel
theorem dX10_ports_32 : decode cX10_ports 32 = .ok (.iconst 3, 1) := by decide +kernel
theorem dX10_ports_33 : decode cX10_ports 33 = .ok (.goto 4, 3) := by decide +kernel
theorem dX10_ports_36 : decode cX10_ports 36 = .ok (.iconst 1, 1) := by decide +kernel
theorem dX10_ports_37 : decode cX10_ports 37 = .ok (.ireturn, 1) := by decide +kernel
theorem dX10_isNode_0 : decode cX10_isNode 0 = .ok (.iload_n 1, 1) := by decide +kernel
theorem dX10_isNode_1 : decode cX10_isNode 1 = .ok (.ifCond .lt 15, 3) := by decide +kernel
theorem dX10_isNode_4 : decode cX10_isNode 4 = .ok (.iload_n 1, 1) := by decide +kernel
theorem dX10_isNode_5 : decode cX10_isNode 5 = .ok (.aload_n 0, 1) := by decide +kernel
theorem dX10_isNode_6 : decode cX10_isNode 6 = .ok (.getfield 105, 3) := by decide +kernel
theorem dX10_isNode_9 : decode cX10_isNode 9 = .ok (.if_icmp .ge 7, 3) := by decide +kernel
theorem dX10_isNode_12 : decode cX10_isNode 12 = .ok (.iconst 1, 1) := by decide +kernel
theorem dX10_isNode_13 : decode cX10_isNode 13 = .ok (.goto 4, 3) := by decide +kernel
theorem dX10_isNode_16 : decode cX10_isNode 16 = .ok (.iconst 0, 1) := by decide +kernel
theorem dX10_isNode_17 : decode cX10_isNode 17 = .ok (.ireturn, 1) := by decide +kernel
theorem dX10_node_0 : decode cX10_node 0 = .ok (.iload_n 1, 1) := by decide +kernel
theorem dX10_node_1 : decode cX10_node 1 = .ok (.ifCond .lt 9, 3) := by decide +kernel
theorem dX10_node_4 : decode cX10_node 4 = .ok (.iload_n 1, 1) := by decide +kernel
theorem dX10_node_5 : decode cX10_node 5 = .ok (.bipush 17, 2) := by decide +kernel
theorem dX10_node_7 : decode cX10_node 7 = .ok (.if_icmp .le 9, 3) := by decide +kernel
theorem dX10_node_10 : decode cX10_node 10 = .ok (.aload_n 0, 1) := by decide +kernel
theorem dX10_node_11 : decode cX10_node 11 = .ok (.iconst 1, 1) := by decide +kernel
theorem dX10_node_12 : decode cX10_node 12 = .ok (.invokevirtual 108, 3) := by decide +kernel
theorem dX10_node_15 : decode cX10_node 15 = .ok (.ireturn, 1) := by decide +kernel
theorem dX10_node_16 : decode cX10_node 16 = .ok (.aload_n 0, 1) := by decide +kernel
theorem dX10_node_17 : decode cX10_node 17 = .ok (.getfield 105, 3) := by decide +kernel
theorem dX10_node_20 : decode cX10_node 20 = .ok (.bipush 40, 2) := by decide +kernel
theorem dX10_node_22 : decode cX10_node 22 = .ok (.if_icmp .eq 10, 3) := by decide +kernel
theorem dX10_node_25 : decode cX10_node 25 = .ok (.aload_n 0, 1) := by decide +kernel
theorem dX10_node_26 : decode cX10_node 26 = .ok (.getfield 112, 3) := by decide +kernel
theorem dX10_node_29 : decode cX10_node 29 = .ok (.ifCond .eq 9, 3) := by decide +kernel
theorem dX10_node_32 : decode cX10_node 32 = .ok (.aload_n 0, 1) := by decide +kernel
theorem dX10_node_33 : decode cX10_node 33 = .ok (.iconst 2, 1) := by decide +kernel
theorem dX10_node_34 : decode cX10_node 34 = .ok (.invokevirtual 108, 3) := by decide +kernel
theorem dX10_node_37 : decode cX10_node 37 = .ok (.ireturn, 1) := by decide +kernel
theorem dX10_node_38 : decode cX10_node 38 = .ok (.aload_n 0, 1) := by decide +kernel
theorem dX10_node_39 : decode cX10_node 39 = .ok (.iconst 0, 1) := by decide +kernel
theorem dX10_node_40 : decode cX10_node 40 = .ok (.putfield 102, 3) := by decide +kernel
theorem dX10_node_43 : decode cX10_node 43 = .ok (.aload_n 0, 1) := by decide +kernel
theorem dX10_node_44 : decode cX10_node 44 = .ok (.getfield 7, 3) := by decide +kernel
theorem dX10_node_47 : decode cX10_node 47 = .ok (.aload_n 0, 1) := by decide +kernel
theorem dX10_node_48 : decode cX10_node 48 = .ok (.getfield 105, 3) := by decide +kernel
theorem dX10_node_51 : decode cX10_node 51 = .ok (.iload_n 1, 1) := by decide +kernel
theorem dX10_node_52 : decode cX10_node 52 = .ok (.iastore, 1) := by decide +kernel
theorem dX10_node_53 : decode cX10_node 53 = .ok (.aload_n 0, 1) := by decide +kernel
theorem dX10_node_54 : decode cX10_node 54 = .ok (.getfield 13, 3) := by decide +kernel
theorem dX10_node_57 : decode cX10_node 57 = .ok (.aload_n 0, 1) := by decide +kernel
theorem dX10_node_58 : decode cX10_node 58 = .ok (.getfield 105, 3) := by decide +kernel
theorem dX10_node_61 : decode cX10_node 61 = .ok (.iload_n 2, 1) := by decide +kernel
theorem dX10_node_62 : decode cX10_node 62 = .ok (.iastore, 1) := by decide +kernel
theorem dX10_node_63 : decode cX10_node 63 = .ok (.aload_n 0, 1) := by decide +kernel
theorem dX10_node_64 : decode cX10_node 64 = .ok (.getfield 16, 3) := by decide +kernel
theorem dX10_node_67 : decode cX10_node 67 = .ok (.aload_n 0, 1) := by decide +kernel
theorem dX10_node_68 : decode cX10_node 68 = .ok (.getfield 105, 3) := by decide +kernel
theorem dX10_node_71 : decode cX10_node 71 = .ok (.iconst 0, 1) := by decide +kernel
theorem dX10_node_72 : decode cX10_node 72 = .ok (.iastore, 1) := by decide +kernel
theorem dX10_node_73 : decode cX10_node 73 = .ok (.aload_n 0, 1) := by decide +kernel
theorem dX10_node_74 : decode cX10_node 74 = .ok (.dup, 1) := by decide +kernel
theorem dX10_node_75 : decode cX10_node 75 = .ok (.getfield 105, 3) := by decide +kernel
theorem dX10_node_78 : decode cX10_node 78 = .ok (.iconst 1, 1) := by decide +kernel
theorem dX10_node_79 : decode cX10_node 79 = .ok (.iadd, 1) := by decide +kernel
theorem dX10_node_80 : decode cX10_node 80 = .ok (.putfield 105, 3) := by decide +kernel
theorem dX10_node_83 : decode cX10_node 83 = .ok (.aload_n 0, 1) := by decide +kernel
theorem dX10_node_84 : decode cX10_node 84 = .ok (.getfield 105, 3) := by decide +kernel
theorem dX10_node_87 : decode cX10_node 87 = .ok (.iconst 1, 1) := by decide +kernel
theorem dX10_node_88 : decode cX10_node 88 = .ok (.isub, 1) := by decide +kernel
theorem dX10_node_89 : decode cX10_node 89 = .ok (.ireturn, 1) := by decide +kernel
theorem dX10_arc_0 : decode cX10_arc 0 = .ok (.aload_n 0, 1) := by decide +kernel
theorem dX10_arc_1 : decode cX10_arc 1 = .ok (.iconst 0, 1) := by decide +kernel
theorem dX10_arc_2 : decode cX10_arc 2 = .ok (.putfield 102, 3) := by decide +kernel
theorem dX10_arc_5 : decode cX10_arc 5 = .ok (.aload_n 0, 1) := by decide +kernel
theorem dX10_arc_6 : decode cX10_arc 6 = .ok (.iload_n 1, 1) := by decide +kernel
theorem dX10_arc_7 : decode cX10_arc 7 = .ok (.invokevirtual 116, 3) := by decide +kernel
theorem dX10_arc_10 : decode cX10_arc 10 = .ok (.ifCond .eq 31, 3) := by decide +kernel
theorem dX10_arc_13 : decode cX10_arc 13 = .ok (.aload_n 0, 1) := by decide +kernel
theorem dX10_arc_14 : decode cX10_arc 14 = .ok (.iload_n 3, 1) := by decide +kernel
theorem dX10_arc_15 : decode cX10_arc 15 = .ok (.invokevirtual 116, 3) := by decide +kernel
theorem dX10_arc_18 : decode cX10_arc 18 = .ok (.ifCond .eq 23, 3) := by decide +kernel
theorem dX10_arc_21 : decode cX10_arc 21 = .ok (.aload_n 0, 1) := by decide +kernel
theorem dX10_arc_22 : decode cX10_arc 22 = .ok (.getfield 112, 3) := by decide +kernel
theorem dX10_arc_25 : decode cX10_arc 25 = .ok (.ifCond .ne 16, 3) := by decide +kernel
theorem dX10_arc_28 : decode cX10_arc 28 = .ok (.iload_n 2, 1) := by decide +kernel
theorem dX10_arc_29 : decode cX10_arc 29 = .ok (.ifCond .lt 12, 3) := by decide +kernel
theorem dX10_arc_32 : decode cX10_arc 32 = .ok (.iload_n 2, 1) := by decide +kernel
theorem dX10_arc_33 : decode cX10_arc 33 = .ok (.iconst 1, 1) := by decide +kernel
theorem dX10_arc_34 : decode cX10_arc 34 = .ok (.if_icmp .gt 7, 3) := by decide +kernel
theorem dX10_arc_37 : decode cX10_arc 37 = .ok (.iconst 1, 1) := by decide +kernel
theorem dX10_arc_38 : decode cX10_arc 38 = .ok (.goto 4, 3) := by decide +kernel
theorem dX10_arc_41 : decode cX10_arc 41 = .ok (.iconst 0, 1) := by decide +kernel
theorem dX10_arc_42 : decode cX10_arc 42 = .ok (.istore 5, 2) := by decide +kernel
theorem dX10_arc_44 : decode cX10_arc 44 = .ok (.iload 5, 2) := by decide +kernel
theorem dX10_arc_46 : decode cX10_arc 46 = .ok (.ifCond .eq 49, 3) := by decide +kernel
theorem dX10_arc_49 : decode cX10_arc 49 = .ok (.iload_n 2, 1) := by decide +kernel
theorem dX10_arc_50 : decode cX10_arc 50 = .ok (.iconst 1, 1) := by decide +kernel
theorem dX10_arc_51 : decode cX10_arc 51 = .ok (.if_icmp .ne 14, 3) := by decide +kernel
theorem dX10_arc_54 : decode cX10_arc 54 = .ok (.aload_n 0, 1) := by decide +kernel
theorem dX10_arc_55 : decode cX10_arc 55 = .ok (.getfield 7, 3) := by decide +kernel
theorem dX10_arc_58 : decode cX10_arc 58 = .ok (.iload_n 1, 1) := by decide +kernel
theorem dX10_arc_59 : decode cX10_arc 59 = .ok (.iaload, 1) := by decide +kernel
theorem dX10_arc_60 : decode cX10_arc 60 = .ok (.bipush 7, 2) := by decide +kernel
theorem dX10_arc_62 : decode cX10_arc 62 = .ok (.if_icmp .ne 33, 3) := by decide +kernel
theorem dX10_arc_65 : decode cX10_arc 65 = .ok (.iload 4, 2) := by decide +kernel
theorem dX10_arc_67 : decode cX10_arc 67 = .ok (.ifCond .lt 28, 3) := by decide +kernel
theorem dX10_arc_70 : decode cX10_arc 70 = .ok (.iload 4, 2) := by decide +kernel
theorem dX10_arc_72 : decode cX10_arc 72 = .ok (.aload_n 0, 1) := by decide +kernel
theorem dX10_arc_73 : decode cX10_arc 73 = .ok (.getfield 7, 3) := by decide +kernel
theorem dX10_arc_76 : decode cX10_arc 76 = .ok (.iload_n 3, 1) := by decide +kernel
theorem dX10_arc_77 : decode cX10_arc 77 = .ok (.iaload, 1) := by decide +kernel
theorem dX10_arc_78 : decode cX10_arc 78 = .ok (.invokestatic 120, 3) := by decide +kernel
theorem dX10_arc_81 : decode cX10_arc 81 = .ok (.if_icmp .ge 14, 3) := by decide +kernel
theorem dX10_arc_84 : decode cX10_arc 84 = .ok (.aload_n 0, 1) := by decide +kernel
theorem dX10_arc_85 : decode cX10_arc 85 = .ok (.getfield 16, 3) := by decide +kernel
theorem dX10_arc_88 : decode cX10_arc 88 = .ok (.iload_n 1, 1) := by decide +kernel
theorem dX10_arc_89 : decode cX10_arc 89 = .ok (.iaload, 1) := by decide +kernel
theorem dX10_arc_90 : decode cX10_arc 90 = .ok (.bipush 6, 2) := by decide +kernel
theorem dX10_arc_92 : decode cX10_arc 92 = .ok (.if_icmp .ne 5, 3) := by decide +kernel
theorem dX10_arc_95 : decode cX10_arc 95 = .ok (.iconst 0, 1) := by decide +kernel
theorem dX10_arc_96 : decode cX10_arc 96 = .ok (.ireturn, 1) := by decide +kernel
theorem dX10_arc_97 : decode cX10_arc 97 = .ok (.bipush 6, 2) := by decide +kernel
theorem dX10_arc_99 : decode cX10_arc 99 = .ok (.iload_n 1, 1) := by decide +kernel
theorem dX10_arc_100 : decode cX10_arc 100 = .ok (.imul, 1) := by decide +kernel
theorem dX10_arc_101 : decode cX10_arc 101 = .ok (.aload_n 0, 1) := by decide +kernel
theorem dX10_arc_102 : decode cX10_arc 102 = .ok (.getfield 16, 3) := by decide +kernel
theorem dX10_arc_105 : decode cX10_arc 105 = .ok (.iload_n 1, 1) := by decide +kernel
theorem dX10_arc_106 : decode cX10_arc 106 = .ok (.iaload, 1) := by decide +kernel
theorem dX10_arc_107 : decode cX10_arc 107 = .ok (.iadd, 1) := by decide +kernel
theorem dX10_arc_108 : decode cX10_arc 108 = .ok (.istore 6, 2) := by decide +kernel
theorem dX10_arc_110 : decode cX10_arc 110 = .ok (.aload_n 0, 1) := by decide +kernel
theorem dX10_arc_111 : decode cX10_arc 111 = .ok (.getfield 19, 3) := by decide +kernel
theorem dX10_arc_114 : decode cX10_arc 114 = .ok (.iload 6, 2) := by decide +kernel
theorem dX10_arc_116 : decode cX10_arc 116 = .ok (.iload_n 2, 1) := by decide +kernel
theorem dX10_arc_117 : decode cX10_arc 117 = .ok (.iastore, 1) := by decide +kernel
theorem dX10_arc_118 : decode cX10_arc 118 = .ok (.aload_n 0, 1) := by decide +kernel
theorem dX10_arc_119 : decode cX10_arc 119 = .ok (.getfield 22, 3) := by decide +kernel
theorem dX10_arc_122 : decode cX10_arc 122 = .ok (.iload 6, 2) := by decide +kernel
theorem dX10_arc_124 : decode cX10_arc 124 = .ok (.iload_n 3, 1) := by decide +kernel
theorem dX10_arc_125 : decode cX10_arc 125 = .ok (.iastore, 1) := by decide +kernel
theorem dX10_arc_126 : decode cX10_arc 126 = .ok (.aload_n 0, 1) := by decide +kernel
theorem dX10_arc_127 : decode cX10_arc 127 = .ok (.getfield 25, 3) := by decide +kernel
theorem dX10_arc_130 : decode cX10_arc 130 = .ok (.iload 6, 2) := by decide +kernel
theorem dX10_arc_132 : decode cX10_arc 132 = .ok (.iload 4, 2) := by decide +kernel
theorem dX10_arc_134 : decode cX10_arc 134 = .ok (.iastore, 1) := by decide +kernel
theorem dX10_arc_135 : decode cX10_arc 135 = .ok (.aload_n 0, 1) := by decide +kernel
theorem dX10_arc_136 : decode cX10_arc 136 = .ok (.getfield 16, 3) := by decide +kernel
theorem dX10_arc_139 : decode cX10_arc 139 = .ok (.iload_n 1, 1) := by decide +kernel
theorem dX10_arc_140 : decode cX10_arc 140 = .ok (.dup2, 1) := by decide +kernel
theorem dX10_arc_141 : decode cX10_arc 141 = .ok (.iaload, 1) := by decide +kernel
theorem dX10_arc_142 : decode cX10_arc 142 = .ok (.iconst 1, 1) := by decide +kernel
theorem dX10_arc_143 : decode cX10_arc 143 = .ok (.iadd, 1) := by decide +kernel
theorem dX10_arc_144 : decode cX10_arc 144 = .ok (.iastore, 1) := by decide +kernel
theorem dX10_arc_145 : decode cX10_arc 145 = .ok (.iconst 1, 1) := by decide +kernel
theorem dX10_arc_146 : decode cX10_arc 146 = .ok (.ireturn, 1) := by decide +kernel
theorem dX10_waits_0 : decode cX10_waits 0 = .ok (.iconst 0, 1) := by decide +kernel
theorem dX10_waits_1 : decode cX10_waits 1 = .ok (.istore 4, 2) := by decide +kernel
theorem dX10_waits_3 : decode cX10_waits 3 = .ok (.iload 4, 2) := by decide +kernel
theorem dX10_waits_5 : decode cX10_waits 5 = .ok (.aload_n 0, 1) := by decide +kernel
theorem dX10_waits_6 : decode cX10_waits 6 = .ok (.getfield 123, 3) := by decide +kernel
theorem dX10_waits_9 : decode cX10_waits 9 = .ok (.if_icmp .ge 45, 3) := by decide +kernel
theorem dX10_waits_12 : decode cX10_waits 12 = .ok (.aload_n 0, 1) := by decide +kernel
theorem dX10_waits_13 : decode cX10_waits 13 = .ok (.getfield 51, 3) := by decide +kernel
theorem dX10_waits_16 : decode cX10_waits 16 = .ok (.iload 4, 2) := by decide +kernel
theorem dX10_waits_18 : decode cX10_waits 18 = .ok (.iaload, 1) := by decide +kernel
theorem dX10_waits_19 : decode cX10_waits 19 = .ok (.iload_n 1, 1) := by decide +kernel
theorem dX10_waits_20 : decode cX10_waits 20 = .ok (.if_icmp .ne 28, 3) := by decide +kernel
theorem dX10_waits_23 : decode cX10_waits 23 = .ok (.aload_n 0, 1) := by decide +kernel
theorem dX10_waits_24 : decode cX10_waits 24 = .ok (.getfield 54, 3) := by decide +kernel
theorem dX10_waits_27 : decode cX10_waits 27 = .ok (.iload 4, 2) := by decide +kernel
theorem dX10_waits_29 : decode cX10_waits 29 = .ok (.iaload, 1) := by decide +kernel
theorem dX10_waits_30 : decode cX10_waits 30 = .ok (.iload_n 2, 1) := by decide +kernel
theorem dX10_waits_31 : decode cX10_waits 31 = .ok (.if_icmp .ne 17, 3) := by decide +kernel
theorem dX10_waits_34 : decode cX10_waits 34 = .ok (.aload_n 0, 1) := by decide +kernel
theorem dX10_waits_35 : decode cX10_waits 35 = .ok (.getfield 57, 3) := by decide +kernel
theorem dX10_waits_38 : decode cX10_waits 38 = .ok (.iload 4, 2) := by decide +kernel
theorem dX10_waits_40 : decode cX10_waits 40 = .ok (.iaload, 1) := by decide +kernel
theorem dX10_waits_41 : decode cX10_waits 41 = .ok (.iload_n 3, 1) := by decide +kernel
theorem dX10_waits_42 : decode cX10_waits 42 = .ok (.if_icmp .ne 6, 3) := by decide +kernel
theorem dX10_waits_45 : decode cX10_waits 45 = .ok (.iload 4, 2) := by decide +kernel
theorem dX10_waits_47 : decode cX10_waits 47 = .ok (.ireturn, 1) := by decide +kernel
theorem dX10_waits_48 : decode cX10_waits 48 = .ok (.iinc 4 1, 3) := by decide +kernel
theorem dX10_waits_51 : decode cX10_waits 51 = .ok (.goto (-48), 3) := by decide +kernel
theorem dX10_waits_54 : decode cX10_waits 54 = .ok (.iconst (-1), 1) := by decide +kernel
theorem dX10_waits_55 : decode cX10_waits 55 = .ok (.ireturn, 1) := by decide +kernel
theorem dX10_comes_0 : decode cX10_comes 0 = .ok (.aload_n 0, 1) := by decide +kernel
theorem dX10_comes_1 : decode cX10_comes 1 = .ok (.getfield 126, 3) := by decide +kernel
theorem dX10_comes_4 : decode cX10_comes 4 = .ok (.ifCond .le 4, 3) := by decide +kernel
theorem dX10_comes_7 : decode cX10_comes 7 = .ok (.return_, 1) := by decide +kernel
theorem dX10_comes_8 : decode cX10_comes 8 = .ok (.aload_n 0, 1) := by decide +kernel
theorem dX10_comes_9 : decode cX10_comes 9 = .ok (.iload_n 1, 1) := by decide +kernel
theorem dX10_comes_10 : decode cX10_comes 10 = .ok (.iload_n 2, 1) := by decide +kernel
theorem dX10_comes_11 : decode cX10_comes 11 = .ok (.iload_n 3, 1) := by decide +kernel
theorem dX10_comes_12 : decode cX10_comes 12 = .ok (.invokevirtual 129, 3) := by decide +kernel
theorem dX10_comes_15 : decode cX10_comes 15 = .ok (.iconst (-1), 1) := by decide +kernel
theorem dX10_comes_16 : decode cX10_comes 16 = .ok (.if_icmp .eq 9, 3) := by decide +kernel
theorem dX10_comes_19 : decode cX10_comes 19 = .ok (.aload_n 0, 1) := by decide +kernel
theorem dX10_comes_20 : decode cX10_comes 20 = .ok (.iconst 1, 1) := by decide +kernel
theorem dX10_comes_21 : decode cX10_comes 21 = .ok (.putfield 126, 3) := by decide +kernel
theorem dX10_comes_24 : decode cX10_comes 24 = .ok (.return_, 1) := by decide +kernel
theorem dX10_comes_25 : decode cX10_comes 25 = .ok (.aload_n 0, 1) := by decide +kernel
theorem dX10_comes_26 : decode cX10_comes 26 = .ok (.getfield 123, 3) := by decide +kernel
theorem dX10_comes_29 : decode cX10_comes 29 = .ok (.aload_n 0, 1) := by decide +kernel
theorem dX10_comes_30 : decode cX10_comes 30 = .ok (.getfield 133, 3) := by decide +kernel
theorem dX10_comes_33 : decode cX10_comes 33 = .ok (.iadd, 1) := by decide +kernel
theorem dX10_comes_34 : decode cX10_comes 34 = .ok (.aload_n 0, 1) := by decide +kernel
theorem dX10_comes_35 : decode cX10_comes 35 = .ok (.getfield 136, 3) := by decide +kernel
theorem dX10_comes_38 : decode cX10_comes 38 = .ok (.iadd, 1) := by decide +kernel
theorem dX10_comes_39 : decode cX10_comes 39 = .ok (.sipush 300, 3) := by decide +kernel
theorem dX10_comes_42 : decode cX10_comes 42 = .ok (.if_icmp .lt 9, 3) := by decide +kernel
theorem dX10_comes_45 : decode cX10_comes 45 = .ok (.aload_n 0, 1) := by decide +kernel
theorem dX10_comes_46 : decode cX10_comes 46 = .ok (.iconst 2, 1) := by decide +kernel
theorem dX10_comes_47 : decode cX10_comes 47 = .ok (.putfield 126, 3) := by decide +kernel
theorem dX10_comes_50 : decode cX10_comes 50 = .ok (.return_, 1) := by decide +kernel
theorem dX10_comes_51 : decode cX10_comes 51 = .ok (.aload_n 0, 1) := by decide +kernel
theorem dX10_comes_52 : decode cX10_comes 52 = .ok (.getfield 51, 3) := by decide +kernel
theorem dX10_comes_55 : decode cX10_comes 55 = .ok (.aload_n 0, 1) := by decide +kernel
theorem dX10_comes_56 : decode cX10_comes 56 = .ok (.getfield 123, 3) := by decide +kernel
theorem dX10_comes_59 : decode cX10_comes 59 = .ok (.iload_n 1, 1) := by decide +kernel
theorem dX10_comes_60 : decode cX10_comes 60 = .ok (.iastore, 1) := by decide +kernel
theorem dX10_comes_61 : decode cX10_comes 61 = .ok (.aload_n 0, 1) := by decide +kernel
theorem dX10_comes_62 : decode cX10_comes 62 = .ok (.getfield 54, 3) := by decide +kernel
theorem dX10_comes_65 : decode cX10_comes 65 = .ok (.aload_n 0, 1) := by decide +kernel
theorem dX10_comes_66 : decode cX10_comes 66 = .ok (.getfield 123, 3) := by decide +kernel
theorem dX10_comes_69 : decode cX10_comes 69 = .ok (.iload_n 2, 1) := by decide +kernel
theorem dX10_comes_70 : decode cX10_comes 70 = .ok (.iastore, 1) := by decide +kernel
theorem dX10_comes_71 : decode cX10_comes 71 = .ok (.aload_n 0, 1) := by decide +kernel
theorem dX10_comes_72 : decode cX10_comes 72 = .ok (.getfield 57, 3) := by decide +kernel
theorem dX10_comes_75 : decode cX10_comes 75 = .ok (.aload_n 0, 1) := by decide +kernel
theorem dX10_comes_76 : decode cX10_comes 76 = .ok (.getfield 123, 3) := by decide +kernel
theorem dX10_comes_79 : decode cX10_comes 79 = .ok (.iload_n 3, 1) := by decide +kernel
theorem dX10_comes_80 : decode cX10_comes 80 = .ok (.iastore, 1) := by decide +kernel
theorem dX10_comes_81 : decode cX10_comes 81 = .ok (.aload_n 0, 1) := by decide +kernel
theorem dX10_comes_82 : decode cX10_comes 82 = .ok (.getfield 60, 3) := by decide +kernel
theorem dX10_comes_85 : decode cX10_comes 85 = .ok (.aload_n 0, 1) := by decide +kernel
theorem dX10_comes_86 : decode cX10_comes 86 = .ok (.getfield 123, 3) := by decide +kernel
theorem dX10_comes_89 : decode cX10_comes 89 = .ok (.iload 4, 2) := by decide +kernel
theorem dX10_comes_91 : decode cX10_comes 91 = .ok (.iastore, 1) := by decide +kernel
theorem dX10_comes_92 : decode cX10_comes 92 = .ok (.aload_n 0, 1) := by decide +kernel
theorem dX10_comes_93 : decode cX10_comes 93 = .ok (.getfield 63, 3) := by decide +kernel
theorem dX10_comes_96 : decode cX10_comes 96 = .ok (.aload_n 0, 1) := by decide +kernel
theorem dX10_comes_97 : decode cX10_comes 97 = .ok (.getfield 123, 3) := by decide +kernel
theorem dX10_comes_100 : decode cX10_comes 100 = .ok (.lload 5, 2) := by decide +kernel
theorem dX10_comes_102 : decode cX10_comes 102 = .ok (.lastore, 1) := by decide +kernel
theorem dX10_comes_103 : decode cX10_comes 103 = .ok (.aload_n 0, 1) := by decide +kernel
theorem dX10_comes_104 : decode cX10_comes 104 = .ok (.dup, 1) := by decide +kernel
theorem dX10_comes_105 : decode cX10_comes 105 = .ok (.getfield 123, 3) := by decide +kernel
theorem dX10_comes_108 : decode cX10_comes 108 = .ok (.iconst 1, 1) := by decide +kernel
theorem dX10_comes_109 : decode cX10_comes 109 = .ok (.iadd, 1) := by decide +kernel
theorem dX10_comes_110 : decode cX10_comes 110 = .ok (.putfield 123, 3) := by decide +kernel
theorem dX10_comes_113 : decode cX10_comes 113 = .ok (.aload_n 0, 1) := by decide +kernel
theorem dX10_comes_114 : decode cX10_comes 114 = .ok (.iload_n 1, 1) := by decide +kernel
theorem dX10_comes_115 : decode cX10_comes 115 = .ok (.iload_n 3, 1) := by decide +kernel
theorem dX10_comes_116 : decode cX10_comes 116 = .ok (.invokevirtual 139, 3) := by decide +kernel
theorem dX10_comes_119 : decode cX10_comes 119 = .ok (.return_, 1) := by decide +kernel
theorem dX10_gather_0 : decode cX10_gather 0 = .ok (.aload_n 0, 1) := by decide +kernel
theorem dX10_gather_1 : decode cX10_gather 1 = .ok (.getfield 7, 3) := by decide +kernel
theorem dX10_gather_4 : decode cX10_gather 4 = .ok (.iload_n 1, 1) := by decide +kernel
theorem dX10_gather_5 : decode cX10_gather 5 = .ok (.iaload, 1) := by decide +kernel
theorem dX10_gather_6 : decode cX10_gather 6 = .ok (.invokestatic 120, 3) := by decide +kernel
theorem dX10_gather_9 : decode cX10_gather 9 = .ok (.istore_n 3, 1) := by decide +kernel
theorem dX10_gather_10 : decode cX10_gather 10 = .ok (.iconst 0, 1) := by decide +kernel
theorem dX10_gather_11 : decode cX10_gather 11 = .ok (.istore 4, 2) := by decide +kernel
theorem dX10_gather_13 : decode cX10_gather 13 = .ok (.iload 4, 2) := by decide +kernel
theorem dX10_gather_15 : decode cX10_gather 15 = .ok (.iload_n 3, 1) := by decide +kernel
theorem dX10_gather_16 : decode cX10_gather 16 = .ok (.if_icmp .ge 22, 3) := by decide +kernel
theorem dX10_gather_19 : decode cX10_gather 19 = .ok (.aload_n 0, 1) := by decide +kernel
theorem dX10_gather_20 : decode cX10_gather 20 = .ok (.iload_n 1, 1) := by decide +kernel
theorem dX10_gather_21 : decode cX10_gather 21 = .ok (.iload 4, 2) := by decide +kernel
theorem dX10_gather_23 : decode cX10_gather 23 = .ok (.iload_n 2, 1) := by decide +kernel
theorem dX10_gather_24 : decode cX10_gather 24 = .ok (.invokevirtual 129, 3) := by decide +kernel
theorem dX10_gather_27 : decode cX10_gather 27 = .ok (.iconst (-1), 1) := by decide +kernel
theorem dX10_gather_28 : decode cX10_gather 28 = .ok (.if_icmp .ne 4, 3) := by decide +kernel
theorem dX10_gather_31 : decode cX10_gather 31 = .ok (.return_, 1) := by decide +kernel
theorem dX10_gather_32 : decode cX10_gather 32 = .ok (.iinc 4 1, 3) := by decide +kernel
theorem dX10_gather_35 : decode cX10_gather 35 = .ok (.goto (-22), 3) := by decide +kernel
theorem dX10_gather_38 : decode cX10_gather 38 = .ok (.aload_n 0, 1) := by decide +kernel
theorem dX10_gather_39 : decode cX10_gather 39 = .ok (.getfield 66, 3) := by decide +kernel
theorem dX10_gather_42 : decode cX10_gather 42 = .ok (.aload_n 0, 1) := by decide +kernel
theorem dX10_gather_43 : decode cX10_gather 43 = .ok (.getfield 133, 3) := by decide +kernel
theorem dX10_gather_46 : decode cX10_gather 46 = .ok (.iload_n 1, 1) := by decide +kernel
theorem dX10_gather_47 : decode cX10_gather 47 = .ok (.iastore, 1) := by decide +kernel
theorem dX10_gather_48 : decode cX10_gather 48 = .ok (.aload_n 0, 1) := by decide +kernel
theorem dX10_gather_49 : decode cX10_gather 49 = .ok (.getfield 69, 3) := by decide +kernel
theorem dX10_gather_52 : decode cX10_gather 52 = .ok (.aload_n 0, 1) := by decide +kernel
theorem dX10_gather_53 : decode cX10_gather 53 = .ok (.getfield 133, 3) := by decide +kernel
theorem dX10_gather_56 : decode cX10_gather 56 = .ok (.iload_n 2, 1) := by decide +kernel
theorem dX10_gather_57 : decode cX10_gather 57 = .ok (.iastore, 1) := by decide +kernel
theorem dX10_gather_58 : decode cX10_gather 58 = .ok (.iconst 0, 1) := by decide +kernel
theorem dX10_gather_59 : decode cX10_gather 59 = .ok (.istore 4, 2) := by decide +kernel
theorem dX10_gather_61 : decode cX10_gather 61 = .ok (.iload 4, 2) := by decide +kernel
theorem dX10_gather_63 : decode cX10_gather 63 = .ok (.iload_n 3, 1) := by decide +kernel
theorem dX10_gather_64 : decode cX10_gather 64 = .ok (.if_icmp .ge 170, 3) := by decide +kernel
theorem dX10_gather_67 : decode cX10_gather 67 = .ok (.aload_n 0, 1) := by decide +kernel
theorem dX10_gather_68 : decode cX10_gather 68 = .ok (.iload_n 1, 1) := by decide +kernel
theorem dX10_gather_69 : decode cX10_gather 69 = .ok (.iload 4, 2) := by decide +kernel
theorem dX10_gather_71 : decode cX10_gather 71 = .ok (.iload_n 2, 1) := by decide +kernel
theorem dX10_gather_72 : decode cX10_gather 72 = .ok (.invokevirtual 129, 3) := by decide +kernel
theorem dX10_gather_75 : decode cX10_gather 75 = .ok (.istore 5, 2) := by decide +kernel
theorem dX10_gather_77 : decode cX10_gather 77 = .ok (.aload_n 0, 1) := by decide +kernel
theorem dX10_gather_78 : decode cX10_gather 78 = .ok (.getfield 72, 3) := by decide +kernel
theorem dX10_gather_81 : decode cX10_gather 81 = .ok (.iconst 3, 1) := by decide +kernel
theorem dX10_gather_82 : decode cX10_gather 82 = .ok (.aload_n 0, 1) := by decide +kernel
theorem dX10_gather_83 : decode cX10_gather 83 = .ok (.getfield 133, 3) := by decide +kernel
theorem dX10_gather_86 : decode cX10_gather 86 = .ok (.imul, 1) := by decide +kernel
theorem dX10_gather_87 : decode cX10_gather 87 = .ok (.iload 4, 2) := by decide +kernel
theorem dX10_gather_89 : decode cX10_gather 89 = .ok (.iadd, 1) := by decide +kernel
theorem dX10_gather_90 : decode cX10_gather 90 = .ok (.aload_n 0, 1) := by decide +kernel
theorem dX10_gather_91 : decode cX10_gather 91 = .ok (.getfield 60, 3) := by decide +kernel
theorem dX10_gather_94 : decode cX10_gather 94 = .ok (.iload 5, 2) := by decide +kernel
theorem dX10_gather_96 : decode cX10_gather 96 = .ok (.iaload, 1) := by decide +kernel
theorem dX10_gather_97 : decode cX10_gather 97 = .ok (.iastore, 1) := by decide +kernel
theorem dX10_gather_98 : decode cX10_gather 98 = .ok (.aload_n 0, 1) := by decide +kernel
theorem dX10_gather_99 : decode cX10_gather 99 = .ok (.getfield 75, 3) := by decide +kernel
theorem dX10_gather_102 : decode cX10_gather 102 = .ok (.iconst 3, 1) := by decide +kernel
theorem dX10_gather_103 : decode cX10_gather 103 = .ok (.aload_n 0, 1) := by decide +kernel
theorem dX10_gather_104 : decode cX10_gather 104 = .ok (.getfield 133, 3) := by decide +kernel
theorem dX10_gather_107 : decode cX10_gather 107 = .ok (.imul, 1) := by decide +kernel
theorem dX10_gather_108 : decode cX10_gather 108 = .ok (.iload 4, 2) := by decide +kernel
theorem dX10_gather_110 : decode cX10_gather 110 = .ok (.iadd, 1) := by decide +kernel
theorem dX10_gather_111 : decode cX10_gather 111 = .ok (.aload_n 0, 1) := by decide +kernel
theorem dX10_gather_112 : decode cX10_gather 112 = .ok (.getfield 63, 3) := by decide +kernel
theorem dX10_gather_115 : decode cX10_gather 115 = .ok (.iload 5, 2) := by decide +kernel
theorem dX10_gather_117 : decode cX10_gather 117 = .ok (.laload, 1) := by decide +kernel
theorem dX10_gather_118 : decode cX10_gather 118 = .ok (.lastore, 1) := by decide +kernel
theorem dX10_gather_119 : decode cX10_gather 119 = .ok (.aload_n 0, 1) := by decide +kernel
theorem dX10_gather_120 : decode cX10_gather 120 = .ok (.dup, 1) := by decide +kernel
theorem dX10_gather_121 : decode cX10_gather 121 = .ok (.getfield 123, 3) := by decide +kernel
theorem dX10_gather_124 : decode cX10_gather 124 = .ok (.iconst 1, 1) := by decide +kernel
theorem dX10_gather_125 : decode cX10_gather 125 = .ok (.isub, 1) := by decide +kernel
theorem dX10_gather_126 : decode cX10_gather 126 = .ok (.putfield 123, 3) := by decide +kernel
theorem dX10_gather_129 : decode cX10_gather 129 = .ok (.iload 5, 2) := by decide +kernel
theorem dX10_gather_131 : decode cX10_gather 131 = .ok (.istore 6, 2) := by decide +kernel
theorem dX10_gather_133 : decode cX10_gather 133 = .ok (.iload 6, 2) := by decide +kernel
theorem dX10_gather_135 : decode cX10_gather 135 = .ok (.aload_n 0, 1) := by decide +kernel
theorem dX10_gather_136 : decode cX10_gather 136 = .ok (.getfield 123, 3) := by decide +kernel
theorem dX10_gather_139 : decode cX10_gather 139 = .ok (.if_icmp .ge 89, 3) := by decide +kernel
theorem dX10_gather_142 : decode cX10_gather 142 = .ok (.aload_n 0, 1) := by decide +kernel
theorem dX10_gather_143 : decode cX10_gather 143 = .ok (.getfield 51, 3) := by decide +kernel
theorem dX10_gather_146 : decode cX10_gather 146 = .ok (.iload 6, 2) := by decide +kernel
theorem dX10_gather_148 : decode cX10_gather 148 = .ok (.aload_n 0, 1) := by decide +kernel
theorem dX10_gather_149 : decode cX10_gather 149 = .ok (.getfield 51, 3) := by decide +kernel
theorem dX10_gather_152 : decode cX10_gather 152 = .ok (.iload 6, 2) := by decide +kernel
theorem dX10_gather_154 : decode cX10_gather 154 = .ok (.iconst 1, 1) := by decide +kernel
theorem dX10_gather_155 : decode cX10_gather 155 = .ok (.iadd, 1) := by decide +kernel
theorem dX10_gather_156 : decode cX10_gather 156 = .ok (.iaload, 1) := by decide +kernel
theorem dX10_gather_157 : decode cX10_gather 157 = .ok (.iastore, 1) := by decide +kernel
theorem dX10_gather_158 : decode cX10_gather 158 = .ok (.aload_n 0, 1) := by decide +kernel
theorem dX10_gather_159 : decode cX10_gather 159 = .ok (.getfield 54, 3) := by decide +kernel
theorem dX10_gather_162 : decode cX10_gather 162 = .ok (.iload 6, 2) := by decide +kernel
theorem dX10_gather_164 : decode cX10_gather 164 = .ok (.aload_n 0, 1) := by decide +kernel
theorem dX10_gather_165 : decode cX10_gather 165 = .ok (.getfield 54, 3) := by decide +kernel
theorem dX10_gather_168 : decode cX10_gather 168 = .ok (.iload 6, 2) := by decide +kernel
theorem dX10_gather_170 : decode cX10_gather 170 = .ok (.iconst 1, 1) := by decide +kernel
theorem dX10_gather_171 : decode cX10_gather 171 = .ok (.iadd, 1) := by decide +kernel
theorem dX10_gather_172 : decode cX10_gather 172 = .ok (.iaload, 1) := by decide +kernel
theorem dX10_gather_173 : decode cX10_gather 173 = .ok (.iastore, 1) := by decide +kernel
theorem dX10_gather_174 : decode cX10_gather 174 = .ok (.aload_n 0, 1) := by decide +kernel
theorem dX10_gather_175 : decode cX10_gather 175 = .ok (.getfield 57, 3) := by decide +kernel
theorem dX10_gather_178 : decode cX10_gather 178 = .ok (.iload 6, 2) := by decide +kernel
theorem dX10_gather_180 : decode cX10_gather 180 = .ok (.aload_n 0, 1) := by decide +kernel
theorem dX10_gather_181 : decode cX10_gather 181 = .ok (.getfield 57, 3) := by decide +kernel
theorem dX10_gather_184 : decode cX10_gather 184 = .ok (.iload 6, 2) := by decide +kernel
theorem dX10_gather_186 : decode cX10_gather 186 = .ok (.iconst 1, 1) := by decide +kernel
theorem dX10_gather_187 : decode cX10_gather 187 = .ok (.iadd, 1) := by decide +kernel
theorem dX10_gather_188 : decode cX10_gather 188 = .ok (.iaload, 1) := by decide +kernel
theorem dX10_gather_189 : decode cX10_gather 189 = .ok (.iastore, 1) := by decide +kernel
theorem dX10_gather_190 : decode cX10_gather 190 = .ok (.aload_n 0, 1) := by decide +kernel
theorem dX10_gather_191 : decode cX10_gather 191 = .ok (.getfield 60, 3) := by decide +kernel
theorem dX10_gather_194 : decode cX10_gather 194 = .ok (.iload 6, 2) := by decide +kernel
theorem dX10_gather_196 : decode cX10_gather 196 = .ok (.aload_n 0, 1) := by decide +kernel
theorem dX10_gather_197 : decode cX10_gather 197 = .ok (.getfield 60, 3) := by decide +kernel
theorem dX10_gather_200 : decode cX10_gather 200 = .ok (.iload 6, 2) := by decide +kernel
theorem dX10_gather_202 : decode cX10_gather 202 = .ok (.iconst 1, 1) := by decide +kernel
theorem dX10_gather_203 : decode cX10_gather 203 = .ok (.iadd, 1) := by decide +kernel
theorem dX10_gather_204 : decode cX10_gather 204 = .ok (.iaload, 1) := by decide +kernel
theorem dX10_gather_205 : decode cX10_gather 205 = .ok (.iastore, 1) := by decide +kernel
theorem dX10_gather_206 : decode cX10_gather 206 = .ok (.aload_n 0, 1) := by decide +kernel
theorem dX10_gather_207 : decode cX10_gather 207 = .ok (.getfield 63, 3) := by decide +kernel
theorem dX10_gather_210 : decode cX10_gather 210 = .ok (.iload 6, 2) := by decide +kernel
theorem dX10_gather_212 : decode cX10_gather 212 = .ok (.aload_n 0, 1) := by decide +kernel
theorem dX10_gather_213 : decode cX10_gather 213 = .ok (.getfield 63, 3) := by decide +kernel
theorem dX10_gather_216 : decode cX10_gather 216 = .ok (.iload 6, 2) := by decide +kernel
theorem dX10_gather_218 : decode cX10_gather 218 = .ok (.iconst 1, 1) := by decide +kernel
theorem dX10_gather_219 : decode cX10_gather 219 = .ok (.iadd, 1) := by decide +kernel
theorem dX10_gather_220 : decode cX10_gather 220 = .ok (.laload, 1) := by decide +kernel
theorem dX10_gather_221 : decode cX10_gather 221 = .ok (.lastore, 1) := by decide +kernel
theorem dX10_gather_222 : decode cX10_gather 222 = .ok (.iinc 6 1, 3) := by decide +kernel
theorem dX10_gather_225 : decode cX10_gather 225 = .ok (.goto (-92), 3) := by decide +kernel
theorem dX10_gather_228 : decode cX10_gather 228 = .ok (.iinc 4 1, 3) := by decide +kernel
theorem dX10_gather_231 : decode cX10_gather 231 = .ok (.goto (-170), 3) := by decide +kernel
theorem dX10_gather_234 : decode cX10_gather 234 = .ok (.aload_n 0, 1) := by decide +kernel
theorem dX10_gather_235 : decode cX10_gather 235 = .ok (.dup, 1) := by decide +kernel
theorem dX10_gather_236 : decode cX10_gather 236 = .ok (.getfield 133, 3) := by decide +kernel
theorem dX10_gather_239 : decode cX10_gather 239 = .ok (.iconst 1, 1) := by decide +kernel
theorem dX10_gather_240 : decode cX10_gather 240 = .ok (.iadd, 1) := by decide +kernel
theorem dX10_gather_241 : decode cX10_gather 241 = .ok (.putfield 133, 3) := by decide +kernel
theorem dX10_gather_244 : decode cX10_gather 244 = .ok (.return_, 1) := by decide +kernel
theorem dX10_token_0 : decode cX10_token 0 = .ok (.aload_n 0, 1) := by decide +kernel
theorem dX10_token_1 : decode cX10_token 1 = .ok (.iconst 0, 1) := by decide +kernel
theorem dX10_token_2 : decode cX10_token 2 = .ok (.putfield 102, 3) := by decide +kernel
theorem dX10_token_5 : decode cX10_token 5 = .ok (.aload_n 0, 1) := by decide +kernel
theorem dX10_token_6 : decode cX10_token 6 = .ok (.iload_n 1, 1) := by decide +kernel
theorem dX10_token_7 : decode cX10_token 7 = .ok (.invokevirtual 116, 3) := by decide +kernel
theorem dX10_token_10 : decode cX10_token 10 = .ok (.ifCond .eq 27, 3) := by decide +kernel
theorem dX10_token_13 : decode cX10_token 13 = .ok (.iload_n 2, 1) := by decide +kernel
theorem dX10_token_14 : decode cX10_token 14 = .ok (.ifCond .lt 23, 3) := by decide +kernel
theorem dX10_token_17 : decode cX10_token 17 = .ok (.iload_n 2, 1) := by decide +kernel
theorem dX10_token_18 : decode cX10_token 18 = .ok (.aload_n 0, 1) := by decide +kernel
theorem dX10_token_19 : decode cX10_token 19 = .ok (.getfield 7, 3) := by decide +kernel
theorem dX10_token_22 : decode cX10_token 22 = .ok (.iload_n 1, 1) := by decide +kernel
theorem dX10_token_23 : decode cX10_token 23 = .ok (.iaload, 1) := by decide +kernel
theorem dX10_token_24 : decode cX10_token 24 = .ok (.invokestatic 120, 3) := by decide +kernel
theorem dX10_token_27 : decode cX10_token 27 = .ok (.if_icmp .ge 10, 3) := by decide +kernel
theorem dX10_token_30 : decode cX10_token 30 = .ok (.aload_n 0, 1) := by decide +kernel
theorem dX10_token_31 : decode cX10_token 31 = .ok (.getfield 126, 3) := by decide +kernel
theorem dX10_token_34 : decode cX10_token 34 = .ok (.ifCond .le 5, 3) := by decide +kernel
theorem dX10_token_37 : decode cX10_token 37 = .ok (.iconst 0, 1) := by decide +kernel
theorem dX10_token_38 : decode cX10_token 38 = .ok (.ireturn, 1) := by decide +kernel
theorem dX10_token_39 : decode cX10_token 39 = .ok (.aload_n 0, 1) := by decide +kernel
theorem dX10_token_40 : decode cX10_token 40 = .ok (.iconst 1, 1) := by decide +kernel
theorem dX10_token_41 : decode cX10_token 41 = .ok (.putfield 112, 3) := by decide +kernel
theorem dX10_token_44 : decode cX10_token 44 = .ok (.aload_n 0, 1) := by decide +kernel
theorem dX10_token_45 : decode cX10_token 45 = .ok (.iload_n 1, 1) := by decide +kernel
theorem dX10_token_46 : decode cX10_token 46 = .ok (.iload_n 2, 1) := by decide +kernel
theorem dX10_token_47 : decode cX10_token 47 = .ok (.iconst 0, 1) := by decide +kernel
theorem dX10_token_48 : decode cX10_token 48 = .ok (.iconst 0, 1) := by decide +kernel
theorem dX10_token_49 : decode cX10_token 49 = .ok (.lload_n 3, 1) := by decide +kernel
theorem dX10_token_50 : decode cX10_token 50 = .ok (.invokevirtual 143, 3) := by decide +kernel
theorem dX10_token_53 : decode cX10_token 53 = .ok (.iconst 1, 1) := by decide +kernel
theorem dX10_token_54 : decode cX10_token 54 = .ok (.ireturn, 1) := by decide +kernel
theorem dX10_send_0 : decode cX10_send 0 = .ok (.bipush 6, 2) := by decide +kernel
theorem dX10_send_2 : decode cX10_send 2 = .ok (.iload_n 1, 1) := by decide +kernel
theorem dX10_send_3 : decode cX10_send 3 = .ok (.imul, 1) := by decide +kernel
theorem dX10_send_4 : decode cX10_send 4 = .ok (.istore 7, 2) := by decide +kernel
theorem dX10_send_6 : decode cX10_send 6 = .ok (.iload 7, 2) := by decide +kernel
theorem dX10_send_8 : decode cX10_send 8 = .ok (.bipush 6, 2) := by decide +kernel
theorem dX10_send_10 : decode cX10_send 10 = .ok (.iload_n 1, 1) := by decide +kernel
theorem dX10_send_11 : decode cX10_send 11 = .ok (.imul, 1) := by decide +kernel
theorem dX10_send_12 : decode cX10_send 12 = .ok (.aload_n 0, 1) := by decide +kernel
theorem dX10_send_13 : decode cX10_send 13 = .ok (.getfield 16, 3) := by decide +kernel
theorem dX10_send_16 : decode cX10_send 16 = .ok (.iload_n 1, 1) := by decide +kernel
theorem dX10_send_17 : decode cX10_send 17 = .ok (.iaload, 1) := by decide +kernel
theorem dX10_send_18 : decode cX10_send 18 = .ok (.iadd, 1) := by decide +kernel
theorem dX10_send_19 : decode cX10_send 19 = .ok (.if_icmp .ge 48, 3) := by decide +kernel
theorem dX10_send_22 : decode cX10_send 22 = .ok (.iload_n 2, 1) := by decide +kernel
theorem dX10_send_23 : decode cX10_send 23 = .ok (.iconst 2, 1) := by decide +kernel
theorem dX10_send_24 : decode cX10_send 24 = .ok (.if_icmp .eq 14, 3) := by decide +kernel
theorem dX10_send_27 : decode cX10_send 27 = .ok (.aload_n 0, 1) := by decide +kernel
theorem dX10_send_28 : decode cX10_send 28 = .ok (.getfield 19, 3) := by decide +kernel
theorem dX10_send_31 : decode cX10_send 31 = .ok (.iload 7, 2) := by decide +kernel
theorem dX10_send_33 : decode cX10_send 33 = .ok (.iaload, 1) := by decide +kernel
theorem dX10_send_34 : decode cX10_send 34 = .ok (.iload_n 2, 1) := by decide +kernel
theorem dX10_send_35 : decode cX10_send 35 = .ok (.if_icmp .ne 26, 3) := by decide +kernel
theorem dX10_send_38 : decode cX10_send 38 = .ok (.aload_n 0, 1) := by decide +kernel
theorem dX10_send_39 : decode cX10_send 39 = .ok (.aload_n 0, 1) := by decide +kernel
theorem dX10_send_40 : decode cX10_send 40 = .ok (.getfield 22, 3) := by decide +kernel
theorem dX10_send_43 : decode cX10_send 43 = .ok (.iload 7, 2) := by decide +kernel
theorem dX10_send_45 : decode cX10_send 45 = .ok (.iaload, 1) := by decide +kernel
theorem dX10_send_46 : decode cX10_send 46 = .ok (.aload_n 0, 1) := by decide +kernel
theorem dX10_send_47 : decode cX10_send 47 = .ok (.getfield 25, 3) := by decide +kernel
theorem dX10_send_50 : decode cX10_send 50 = .ok (.iload 7, 2) := by decide +kernel
theorem dX10_send_52 : decode cX10_send 52 = .ok (.iaload, 1) := by decide +kernel
theorem dX10_send_53 : decode cX10_send 53 = .ok (.iload_n 3, 1) := by decide +kernel
theorem dX10_send_54 : decode cX10_send 54 = .ok (.iload 4, 2) := by decide +kernel
theorem dX10_send_56 : decode cX10_send 56 = .ok (.lload 5, 2) := by decide +kernel
theorem dX10_send_58 : decode cX10_send 58 = .ok (.invokevirtual 143, 3) := by decide +kernel
theorem dX10_send_61 : decode cX10_send 61 = .ok (.iinc 7 1, 3) := by decide +kernel
theorem dX10_send_64 : decode cX10_send 64 = .ok (.goto (-58), 3) := by decide +kernel
theorem dX10_send_67 : decode cX10_send 67 = .ok (.return_, 1) := by decide +kernel
theorem dX10_contextOf_0 : decode cX10_contextOf 0 = .ok (.iconst 1, 1) := by decide +kernel
theorem dX10_contextOf_1 : decode cX10_contextOf 1 = .ok (.istore 4, 2) := by decide +kernel
theorem dX10_contextOf_3 : decode cX10_contextOf 3 = .ok (.iload 4, 2) := by decide +kernel
theorem dX10_contextOf_5 : decode cX10_contextOf 5 = .ok (.aload_n 0, 1) := by decide +kernel
theorem dX10_contextOf_6 : decode cX10_contextOf 6 = .ok (.getfield 28, 3) := by decide +kernel
theorem dX10_contextOf_9 : decode cX10_contextOf 9 = .ok (.if_icmp .ge 45, 3) := by decide +kernel
theorem dX10_contextOf_12 : decode cX10_contextOf 12 = .ok (.aload_n 0, 1) := by decide +kernel
theorem dX10_contextOf_13 : decode cX10_contextOf 13 = .ok (.getfield 32, 3) := by decide +kernel
theorem dX10_contextOf_16 : decode cX10_contextOf 16 = .ok (.iload 4, 2) := by decide +kernel
theorem dX10_contextOf_18 : decode cX10_contextOf 18 = .ok (.iaload, 1) := by decide +kernel
theorem dX10_contextOf_19 : decode cX10_contextOf 19 = .ok (.iload_n 1, 1) := by decide +kernel
theorem dX10_contextOf_20 : decode cX10_contextOf 20 = .ok (.if_icmp .ne 28, 3) := by decide +kernel
theorem dX10_contextOf_23 : decode cX10_contextOf 23 = .ok (.aload_n 0, 1) := by decide +kernel
theorem dX10_contextOf_24 : decode cX10_contextOf 24 = .ok (.getfield 35, 3) := by decide +kernel
theorem dX10_contextOf_27 : decode cX10_contextOf 27 = .ok (.iload 4, 2) := by decide +kernel
theorem dX10_contextOf_29 : decode cX10_contextOf 29 = .ok (.iaload, 1) := by decide +kernel
theorem dX10_contextOf_30 : decode cX10_contextOf 30 = .ok (.iload_n 2, 1) := by decide +kernel
theorem dX10_contextOf_31 : decode cX10_contextOf 31 = .ok (.if_icmp .ne 17, 3) := by decide +kernel
theorem dX10_contextOf_34 : decode cX10_contextOf 34 = .ok (.aload_n 0, 1) := by decide +kernel
theorem dX10_contextOf_35 : decode cX10_contextOf 35 = .ok (.getfield 38, 3) := by decide +kernel
theorem dX10_contextOf_38 : decode cX10_contextOf 38 = .ok (.iload 4, 2) := by decide +kernel
theorem dX10_contextOf_40 : decode cX10_contextOf 40 = .ok (.iaload, 1) := by decide +kernel
theorem dX10_contextOf_41 : decode cX10_contextOf 41 = .ok (.iload_n 3, 1) := by decide +kernel
theorem dX10_contextOf_42 : decode cX10_contextOf 42 = .ok (.if_icmp .ne 6, 3) := by decide +kernel
theorem dX10_contextOf_45 : decode cX10_contextOf 45 = .ok (.iload 4, 2) := by decide +kernel
theorem dX10_contextOf_47 : decode cX10_contextOf 47 = .ok (.ireturn, 1) := by decide +kernel
theorem dX10_contextOf_48 : decode cX10_contextOf 48 = .ok (.iinc 4 1, 3) := by decide +kernel
theorem dX10_contextOf_51 : decode cX10_contextOf 51 = .ok (.goto (-48), 3) := by decide +kernel
theorem dX10_contextOf_54 : decode cX10_contextOf 54 = .ok (.aload_n 0, 1) := by decide +kernel
theorem dX10_contextOf_55 : decode cX10_contextOf 55 = .ok (.getfield 28, 3) := by decide +kernel
theorem dX10_contextOf_58 : decode cX10_contextOf 58 = .ok (.sipush 151, 3) := by decide +kernel
theorem dX10_contextOf_61 : decode cX10_contextOf 61 = .ok (.if_icmp .ne 10, 3) := by decide +kernel
theorem dX10_contextOf_64 : decode cX10_contextOf 64 = .ok (.aload_n 0, 1) := by decide +kernel
theorem dX10_contextOf_65 : decode cX10_contextOf 65 = .ok (.iconst 2, 1) := by decide +kernel
theorem dX10_contextOf_66 : decode cX10_contextOf 66 = .ok (.putfield 126, 3) := by decide +kernel
theorem dX10_contextOf_69 : decode cX10_contextOf 69 = .ok (.iconst (-1), 1) := by decide +kernel
theorem dX10_contextOf_70 : decode cX10_contextOf 70 = .ok (.ireturn, 1) := by decide +kernel
theorem dX10_contextOf_71 : decode cX10_contextOf 71 = .ok (.aload_n 0, 1) := by decide +kernel
theorem dX10_contextOf_72 : decode cX10_contextOf 72 = .ok (.getfield 32, 3) := by decide +kernel
theorem dX10_contextOf_75 : decode cX10_contextOf 75 = .ok (.aload_n 0, 1) := by decide +kernel
theorem dX10_contextOf_76 : decode cX10_contextOf 76 = .ok (.getfield 28, 3) := by decide +kernel
theorem dX10_contextOf_79 : decode cX10_contextOf 79 = .ok (.iload_n 1, 1) := by decide +kernel
theorem dX10_contextOf_80 : decode cX10_contextOf 80 = .ok (.iastore, 1) := by decide +kernel
theorem dX10_contextOf_81 : decode cX10_contextOf 81 = .ok (.aload_n 0, 1) := by decide +kernel
theorem dX10_contextOf_82 : decode cX10_contextOf 82 = .ok (.getfield 35, 3) := by decide +kernel
theorem dX10_contextOf_85 : decode cX10_contextOf 85 = .ok (.aload_n 0, 1) := by decide +kernel
theorem dX10_contextOf_86 : decode cX10_contextOf 86 = .ok (.getfield 28, 3) := by decide +kernel
theorem dX10_contextOf_89 : decode cX10_contextOf 89 = .ok (.iload_n 2, 1) := by decide +kernel
theorem dX10_contextOf_90 : decode cX10_contextOf 90 = .ok (.iastore, 1) := by decide +kernel
theorem dX10_contextOf_91 : decode cX10_contextOf 91 = .ok (.aload_n 0, 1) := by decide +kernel
theorem dX10_contextOf_92 : decode cX10_contextOf 92 = .ok (.getfield 38, 3) := by decide +kernel
theorem dX10_contextOf_95 : decode cX10_contextOf 95 = .ok (.aload_n 0, 1) := by decide +kernel
theorem dX10_contextOf_96 : decode cX10_contextOf 96 = .ok (.getfield 28, 3) := by decide +kernel
theorem dX10_contextOf_99 : decode cX10_contextOf 99 = .ok (.iload_n 3, 1) := by decide +kernel
theorem dX10_contextOf_100 : decode cX10_contextOf 100 = .ok (.iastore, 1) := by decide +kernel
theorem dX10_contextOf_101 : decode cX10_contextOf 101 = .ok (.aload_n 0, 1) := by decide +kernel
theorem dX10_contextOf_102 : decode cX10_contextOf 102 = .ok (.dup, 1) := by decide +kernel
theorem dX10_contextOf_103 : decode cX10_contextOf 103 = .ok (.getfield 28, 3) := by decide +kernel
theorem dX10_contextOf_106 : decode cX10_contextOf 106 = .ok (.iconst 1, 1) := by decide +kernel
theorem dX10_contextOf_107 : decode cX10_contextOf 107 = .ok (.iadd, 1) := by decide +kernel
theorem dX10_contextOf_108 : decode cX10_contextOf 108 = .ok (.putfield 28, 3) := by decide +kernel
theorem dX10_contextOf_111 : decode cX10_contextOf 111 = .ok (.aload_n 0, 1) := by decide +kernel
theorem dX10_contextOf_112 : decode cX10_contextOf 112 = .ok (.getfield 28, 3) := by decide +kernel
theorem dX10_contextOf_115 : decode cX10_contextOf 115 = .ok (.iconst 1, 1) := by decide +kernel
theorem dX10_contextOf_116 : decode cX10_contextOf 116 = .ok (.isub, 1) := by decide +kernel
theorem dX10_contextOf_117 : decode cX10_contextOf 117 = .ok (.ireturn, 1) := by decide +kernel
theorem dX10_sendError_0 : decode cX10_sendError 0 = .ok (.aload_n 0, 1) := by decide +kernel
theorem dX10_sendError_1 : decode cX10_sendError 1 = .ok (.iload_n 1, 1) := by decide +kernel
theorem dX10_sendError_2 : decode cX10_sendError 2 = .ok (.iconst 0, 1) := by decide +kernel
theorem dX10_sendError_3 : decode cX10_sendError 3 = .ok (.iload_n 2, 1) := by decide +kernel
theorem dX10_sendError_4 : decode cX10_sendError 4 = .ok (.iconst 1, 1) := by decide +kernel
theorem dX10_sendError_5 : decode cX10_sendError 5 = .ok (.iload_n 3, 1) := by decide +kernel
theorem dX10_sendError_6 : decode cX10_sendError 6 = .ok (.i2l, 1) := by decide +kernel
theorem dX10_sendError_7 : decode cX10_sendError 7 = .ok (.invokevirtual 147, 3) := by decide +kernel
theorem dX10_sendError_10 : decode cX10_sendError 10 = .ok (.return_, 1) := by decide +kernel
theorem dX10_errorOf_0 : decode cX10_errorOf 0 = .ok (.iconst 0, 1) := by decide +kernel
theorem dX10_errorOf_1 : decode cX10_errorOf 1 = .ok (.istore_n 2, 1) := by decide +kernel
theorem dX10_errorOf_2 : decode cX10_errorOf 2 = .ok (.iconst 0, 1) := by decide +kernel
theorem dX10_errorOf_3 : decode cX10_errorOf 3 = .ok (.istore_n 3, 1) := by decide +kernel
theorem dX10_errorOf_4 : decode cX10_errorOf 4 = .ok (.iload_n 3, 1) := by decide +kernel
theorem dX10_errorOf_5 : decode cX10_errorOf 5 = .ok (.iload_n 1, 1) := by decide +kernel
theorem dX10_errorOf_6 : decode cX10_errorOf 6 = .ok (.if_icmp .ge 43, 3) := by decide +kernel
theorem dX10_errorOf_9 : decode cX10_errorOf 9 = .ok (.aload_n 0, 1) := by decide +kernel
theorem dX10_errorOf_10 : decode cX10_errorOf 10 = .ok (.getfield 96, 3) := by decide +kernel
theorem dX10_errorOf_13 : decode cX10_errorOf 13 = .ok (.iload_n 3, 1) := by decide +kernel
theorem dX10_errorOf_14 : decode cX10_errorOf 14 = .ok (.iaload, 1) := by decide +kernel
theorem dX10_errorOf_15 : decode cX10_errorOf 15 = .ok (.iconst 1, 1) := by decide +kernel
theorem dX10_errorOf_16 : decode cX10_errorOf 16 = .ok (.if_icmp .ne 27, 3) := by decide +kernel
theorem dX10_errorOf_19 : decode cX10_errorOf 19 = .ok (.iload_n 2, 1) := by decide +kernel
theorem dX10_errorOf_20 : decode cX10_errorOf 20 = .ok (.ifCond .eq 15, 3) := by decide +kernel
theorem dX10_errorOf_23 : decode cX10_errorOf 23 = .ok (.aload_n 0, 1) := by decide +kernel
theorem dX10_errorOf_24 : decode cX10_errorOf 24 = .ok (.getfield 99, 3) := by decide +kernel
theorem dX10_errorOf_27 : decode cX10_errorOf 27 = .ok (.iload_n 3, 1) := by decide +kernel
theorem dX10_errorOf_28 : decode cX10_errorOf 28 = .ok (.laload, 1) := by decide +kernel
theorem dX10_errorOf_29 : decode cX10_errorOf 29 = .ok (.iload_n 2, 1) := by decide +kernel
theorem dX10_errorOf_30 : decode cX10_errorOf 30 = .ok (.i2l, 1) := by decide +kernel
theorem dX10_errorOf_31 : decode cX10_errorOf 31 = .ok (.lcmp, 1) := by decide +kernel
theorem dX10_errorOf_32 : decode cX10_errorOf 32 = .ok (.ifCond .ge 11, 3) := by decide +kernel
theorem dX10_errorOf_35 : decode cX10_errorOf 35 = .ok (.aload_n 0, 1) := by decide +kernel
theorem dX10_errorOf_36 : decode cX10_errorOf 36 = .ok (.getfield 99, 3) := by decide +kernel
theorem dX10_errorOf_39 : decode cX10_errorOf 39 = .ok (.iload_n 3, 1) := by decide +kernel
theorem dX10_errorOf_40 : decode cX10_errorOf 40 = .ok (.laload, 1) := by decide +kernel
theorem dX10_errorOf_41 : decode cX10_errorOf 41 = .ok (.l2i, 1) := by decide +kernel
theorem dX10_errorOf_42 : decode cX10_errorOf 42 = .ok (.istore_n 2, 1) := by decide +kernel
theorem dX10_errorOf_43 : decode cX10_errorOf 43 = .ok (.iinc 3 1, 3) := by decide +kernel
theorem dX10_errorOf_46 : decode cX10_errorOf 46 = .ok (.goto (-42), 3) := by decide +kernel
theorem dX10_errorOf_49 : decode cX10_errorOf 49 = .ok (.iload_n 2, 1) := by decide +kernel
theorem dX10_errorOf_50 : decode cX10_errorOf 50 = .ok (.ireturn, 1) := by decide +kernel
theorem dX10_take_0 : decode cX10_take 0 = .ok (.iconst 0, 1) := by decide +kernel
theorem dX10_take_1 : decode cX10_take 1 = .ok (.istore_n 2, 1) := by decide +kernel
theorem dX10_take_2 : decode cX10_take 2 = .ok (.iload_n 2, 1) := by decide +kernel
theorem dX10_take_3 : decode cX10_take 3 = .ok (.iconst 3, 1) := by decide +kernel
theorem dX10_take_4 : decode cX10_take 4 = .ok (.if_icmp .ge 41, 3) := by decide +kernel
theorem dX10_take_7 : decode cX10_take 7 = .ok (.aload_n 0, 1) := by decide +kernel
theorem dX10_take_8 : decode cX10_take 8 = .ok (.getfield 96, 3) := by decide +kernel
theorem dX10_take_11 : decode cX10_take 11 = .ok (.iload_n 2, 1) := by decide +kernel
theorem dX10_take_12 : decode cX10_take 12 = .ok (.aload_n 0, 1) := by decide +kernel
theorem dX10_take_13 : decode cX10_take 13 = .ok (.getfield 72, 3) := by decide +kernel
theorem dX10_take_16 : decode cX10_take 16 = .ok (.iconst 3, 1) := by decide +kernel
theorem dX10_take_17 : decode cX10_take 17 = .ok (.iload_n 1, 1) := by decide +kernel
theorem dX10_take_18 : decode cX10_take 18 = .ok (.imul, 1) := by decide +kernel
theorem dX10_take_19 : decode cX10_take 19 = .ok (.iload_n 2, 1) := by decide +kernel
theorem dX10_take_20 : decode cX10_take 20 = .ok (.iadd, 1) := by decide +kernel
theorem dX10_take_21 : decode cX10_take 21 = .ok (.iaload, 1) := by decide +kernel
theorem dX10_take_22 : decode cX10_take 22 = .ok (.iastore, 1) := by decide +kernel
theorem dX10_take_23 : decode cX10_take 23 = .ok (.aload_n 0, 1) := by decide +kernel
theorem dX10_take_24 : decode cX10_take 24 = .ok (.getfield 99, 3) := by decide +kernel
theorem dX10_take_27 : decode cX10_take 27 = .ok (.iload_n 2, 1) := by decide +kernel
theorem dX10_take_28 : decode cX10_take 28 = .ok (.aload_n 0, 1) := by decide +kernel
theorem dX10_take_29 : decode cX10_take 29 = .ok (.getfield 75, 3) := by decide +kernel
theorem dX10_take_32 : decode cX10_take 32 = .ok (.iconst 3, 1) := by decide +kernel
theorem dX10_take_33 : decode cX10_take 33 = .ok (.iload_n 1, 1) := by decide +kernel
theorem dX10_take_34 : decode cX10_take 34 = .ok (.imul, 1) := by decide +kernel
theorem dX10_take_35 : decode cX10_take 35 = .ok (.iload_n 2, 1) := by decide +kernel
theorem dX10_take_36 : decode cX10_take 36 = .ok (.iadd, 1) := by decide +kernel
theorem dX10_take_37 : decode cX10_take 37 = .ok (.laload, 1) := by decide +kernel
theorem dX10_take_38 : decode cX10_take 38 = .ok (.lastore, 1) := by decide +kernel
theorem dX10_take_39 : decode cX10_take 39 = .ok (.iinc 2 1, 3) := by decide +kernel
theorem dX10_take_42 : decode cX10_take 42 = .ok (.goto (-40), 3) := by decide +kernel
theorem dX10_take_45 : decode cX10_take 45 = .ok (.aload_n 0, 1) := by decide +kernel
theorem dX10_take_46 : decode cX10_take 46 = .ok (.dup, 1) := by decide +kernel
theorem dX10_take_47 : decode cX10_take 47 = .ok (.getfield 133, 3) := by decide +kernel
theorem dX10_take_50 : decode cX10_take 50 = .ok (.iconst 1, 1) := by decide +kernel
theorem dX10_take_51 : decode cX10_take 51 = .ok (.isub, 1) := by decide +kernel
theorem dX10_take_52 : decode cX10_take 52 = .ok (.putfield 133, 3) := by decide +kernel
theorem dX10_take_55 : decode cX10_take 55 = .ok (.iload_n 1, 1) := by decide +kernel
theorem dX10_take_56 : decode cX10_take 56 = .ok (.istore_n 2, 1) := by decide +kernel
theorem dX10_take_57 : decode cX10_take 57 = .ok (.iload_n 2, 1) := by decide +kernel
theorem dX10_take_58 : decode cX10_take 58 = .ok (.aload_n 0, 1) := by decide +kernel
theorem dX10_take_59 : decode cX10_take 59 = .ok (.getfield 133, 3) := by decide +kernel
theorem dX10_take_62 : decode cX10_take 62 = .ok (.if_icmp .ge 94, 3) := by decide +kernel
theorem dX10_take_65 : decode cX10_take 65 = .ok (.aload_n 0, 1) := by decide +kernel
theorem dX10_take_66 : decode cX10_take 66 = .ok (.getfield 66, 3) := by decide +kernel
theorem dX10_take_69 : decode cX10_take 69 = .ok (.iload_n 2, 1) := by decide +kernel
theorem dX10_take_70 : decode cX10_take 70 = .ok (.aload_n 0, 1) := by decide +kernel
theorem dX10_take_71 : decode cX10_take 71 = .ok (.getfield 66, 3) := by decide +kernel
theorem dX10_take_74 : decode cX10_take 74 = .ok (.iload_n 2, 1) := by decide +kernel
theorem dX10_take_75 : decode cX10_take 75 = .ok (.iconst 1, 1) := by decide +kernel
theorem dX10_take_76 : decode cX10_take 76 = .ok (.iadd, 1) := by decide +kernel
theorem dX10_take_77 : decode cX10_take 77 = .ok (.iaload, 1) := by decide +kernel
theorem dX10_take_78 : decode cX10_take 78 = .ok (.iastore, 1) := by decide +kernel
theorem dX10_take_79 : decode cX10_take 79 = .ok (.aload_n 0, 1) := by decide +kernel
theorem dX10_take_80 : decode cX10_take 80 = .ok (.getfield 69, 3) := by decide +kernel
theorem dX10_take_83 : decode cX10_take 83 = .ok (.iload_n 2, 1) := by decide +kernel
theorem dX10_take_84 : decode cX10_take 84 = .ok (.aload_n 0, 1) := by decide +kernel
theorem dX10_take_85 : decode cX10_take 85 = .ok (.getfield 69, 3) := by decide +kernel
theorem dX10_take_88 : decode cX10_take 88 = .ok (.iload_n 2, 1) := by decide +kernel
theorem dX10_take_89 : decode cX10_take 89 = .ok (.iconst 1, 1) := by decide +kernel
theorem dX10_take_90 : decode cX10_take 90 = .ok (.iadd, 1) := by decide +kernel
theorem dX10_take_91 : decode cX10_take 91 = .ok (.iaload, 1) := by decide +kernel
theorem dX10_take_92 : decode cX10_take 92 = .ok (.iastore, 1) := by decide +kernel
theorem dX10_take_93 : decode cX10_take 93 = .ok (.iconst 0, 1) := by decide +kernel
theorem dX10_take_94 : decode cX10_take 94 = .ok (.istore_n 3, 1) := by decide +kernel
theorem dX10_take_95 : decode cX10_take 95 = .ok (.iload_n 3, 1) := by decide +kernel
theorem dX10_take_96 : decode cX10_take 96 = .ok (.iconst 3, 1) := by decide +kernel
theorem dX10_take_97 : decode cX10_take 97 = .ok (.if_icmp .ge 53, 3) := by decide +kernel
theorem dX10_take_100 : decode cX10_take 100 = .ok (.aload_n 0, 1) := by decide +kernel
theorem dX10_take_101 : decode cX10_take 101 = .ok (.getfield 72, 3) := by decide +kernel
theorem dX10_take_104 : decode cX10_take 104 = .ok (.iconst 3, 1) := by decide +kernel
theorem dX10_take_105 : decode cX10_take 105 = .ok (.iload_n 2, 1) := by decide +kernel
theorem dX10_take_106 : decode cX10_take 106 = .ok (.imul, 1) := by decide +kernel
theorem dX10_take_107 : decode cX10_take 107 = .ok (.iload_n 3, 1) := by decide +kernel
theorem dX10_take_108 : decode cX10_take 108 = .ok (.iadd, 1) := by decide +kernel
theorem dX10_take_109 : decode cX10_take 109 = .ok (.aload_n 0, 1) := by decide +kernel
theorem dX10_take_110 : decode cX10_take 110 = .ok (.getfield 72, 3) := by decide +kernel
theorem dX10_take_113 : decode cX10_take 113 = .ok (.iconst 3, 1) := by decide +kernel
theorem dX10_take_114 : decode cX10_take 114 = .ok (.iload_n 2, 1) := by decide +kernel
theorem dX10_take_115 : decode cX10_take 115 = .ok (.imul, 1) := by decide +kernel
theorem dX10_take_116 : decode cX10_take 116 = .ok (.iconst 3, 1) := by decide +kernel
theorem dX10_take_117 : decode cX10_take 117 = .ok (.iadd, 1) := by decide +kernel
theorem dX10_take_118 : decode cX10_take 118 = .ok (.iload_n 3, 1) := by decide +kernel
theorem dX10_take_119 : decode cX10_take 119 = .ok (.iadd, 1) := by decide +kernel
theorem dX10_take_120 : decode cX10_take 120 = .ok (.iaload, 1) := by decide +kernel
theorem dX10_take_121 : decode cX10_take 121 = .ok (.iastore, 1) := by decide +kernel
theorem dX10_take_122 : decode cX10_take 122 = .ok (.aload_n 0, 1) := by decide +kernel
theorem dX10_take_123 : decode cX10_take 123 = .ok (.getfield 75, 3) := by decide +kernel
theorem dX10_take_126 : decode cX10_take 126 = .ok (.iconst 3, 1) := by decide +kernel
theorem dX10_take_127 : decode cX10_take 127 = .ok (.iload_n 2, 1) := by decide +kernel
theorem dX10_take_128 : decode cX10_take 128 = .ok (.imul, 1) := by decide +kernel
theorem dX10_take_129 : decode cX10_take 129 = .ok (.iload_n 3, 1) := by decide +kernel
theorem dX10_take_130 : decode cX10_take 130 = .ok (.iadd, 1) := by decide +kernel
theorem dX10_take_131 : decode cX10_take 131 = .ok (.aload_n 0, 1) := by decide +kernel
theorem dX10_take_132 : decode cX10_take 132 = .ok (.getfield 75, 3) := by decide +kernel
theorem dX10_take_135 : decode cX10_take 135 = .ok (.iconst 3, 1) := by decide +kernel
theorem dX10_take_136 : decode cX10_take 136 = .ok (.iload_n 2, 1) := by decide +kernel
theorem dX10_take_137 : decode cX10_take 137 = .ok (.imul, 1) := by decide +kernel
theorem dX10_take_138 : decode cX10_take 138 = .ok (.iconst 3, 1) := by decide +kernel
theorem dX10_take_139 : decode cX10_take 139 = .ok (.iadd, 1) := by decide +kernel
theorem dX10_take_140 : decode cX10_take 140 = .ok (.iload_n 3, 1) := by decide +kernel
theorem dX10_take_141 : decode cX10_take 141 = .ok (.iadd, 1) := by decide +kernel
theorem dX10_take_142 : decode cX10_take 142 = .ok (.laload, 1) := by decide +kernel
theorem dX10_take_143 : decode cX10_take 143 = .ok (.lastore, 1) := by decide +kernel
theorem dX10_take_144 : decode cX10_take 144 = .ok (.iinc 3 1, 3) := by decide +kernel
theorem dX10_take_147 : decode cX10_take 147 = .ok (.goto (-52), 3) := by decide +kernel
theorem dX10_take_150 : decode cX10_take 150 = .ok (.iinc 2 1, 3) := by decide +kernel
theorem dX10_take_153 : decode cX10_take 153 = .ok (.goto (-96), 3) := by decide +kernel
theorem dX10_take_156 : decode cX10_take 156 = .ok (.return_, 1) := by decide +kernel
theorem dX10_go_0 : decode cX10_go 0 = .ok (.aload_n 0, 1) := by decide +kernel
theorem dX10_go_1 : decode cX10_go 1 = .ok (.getfield 66, 3) := by decide +kernel
theorem dX10_go_4 : decode cX10_go 4 = .ok (.iload_n 1, 1) := by decide +kernel
theorem dX10_go_5 : decode cX10_go 5 = .ok (.iaload, 1) := by decide +kernel
theorem dX10_go_6 : decode cX10_go 6 = .ok (.istore_n 2, 1) := by decide +kernel
theorem dX10_go_7 : decode cX10_go 7 = .ok (.aload_n 0, 1) := by decide +kernel
theorem dX10_go_8 : decode cX10_go 8 = .ok (.getfield 69, 3) := by decide +kernel
theorem dX10_go_11 : decode cX10_go 11 = .ok (.iload_n 1, 1) := by decide +kernel
theorem dX10_go_12 : decode cX10_go 12 = .ok (.iaload, 1) := by decide +kernel
theorem dX10_go_13 : decode cX10_go 13 = .ok (.istore_n 3, 1) := by decide +kernel
theorem dX10_go_14 : decode cX10_go 14 = .ok (.aload_n 0, 1) := by decide +kernel
theorem dX10_go_15 : decode cX10_go 15 = .ok (.iload_n 1, 1) := by decide +kernel
theorem dX10_go_16 : decode cX10_go 16 = .ok (.invokevirtual 150, 3) := by decide +kernel
theorem dX10_go_19 : decode cX10_go 19 = .ok (.aload_n 0, 1) := by decide +kernel
theorem dX10_go_20 : decode cX10_go 20 = .ok (.getfield 7, 3) := by decide +kernel
theorem dX10_go_23 : decode cX10_go 23 = .ok (.iload_n 2, 1) := by decide +kernel
theorem dX10_go_24 : decode cX10_go 24 = .ok (.iaload, 1) := by decide +kernel
theorem dX10_go_25 : decode cX10_go 25 = .ok (.istore 4, 2) := by decide +kernel
theorem dX10_go_27 : decode cX10_go 27 = .ok (.iload 4, 2) := by decide +kernel
theorem dX10_go_29 : decode cX10_go 29 = .ok (.ifCond .ne 25, 3) := by decide +kernel
theorem dX10_go_32 : decode cX10_go 32 = .ok (.aload_n 0, 1) := by decide +kernel
theorem dX10_go_33 : decode cX10_go 33 = .ok (.iload_n 2, 1) := by decide +kernel
theorem dX10_go_34 : decode cX10_go 34 = .ok (.iconst 0, 1) := by decide +kernel
theorem dX10_go_35 : decode cX10_go 35 = .ok (.iload_n 3, 1) := by decide +kernel
theorem dX10_go_36 : decode cX10_go 36 = .ok (.aload_n 0, 1) := by decide +kernel
theorem dX10_go_37 : decode cX10_go 37 = .ok (.getfield 96, 3) := by decide +kernel
theorem dX10_go_40 : decode cX10_go 40 = .ok (.iconst 0, 1) := by decide +kernel
theorem dX10_go_41 : decode cX10_go 41 = .ok (.iaload, 1) := by decide +kernel
theorem dX10_go_42 : decode cX10_go 42 = .ok (.aload_n 0, 1) := by decide +kernel
theorem dX10_go_43 : decode cX10_go 43 = .ok (.getfield 99, 3) := by decide +kernel
theorem dX10_go_46 : decode cX10_go 46 = .ok (.iconst 0, 1) := by decide +kernel
theorem dX10_go_47 : decode cX10_go 47 = .ok (.laload, 1) := by decide +kernel
theorem dX10_go_48 : decode cX10_go 48 = .ok (.invokevirtual 147, 3) := by decide +kernel
theorem dX10_go_51 : decode cX10_go 51 = .ok (.goto 161, 3) := by decide +kernel
theorem dX10_go_54 : decode cX10_go 54 = .ok (.iload 4, 2) := by decide +kernel
theorem dX10_go_56 : decode cX10_go 56 = .ok (.iconst 5, 1) := by decide +kernel
theorem dX10_go_57 : decode cX10_go 57 = .ok (.if_icmp .gt 12, 3) := by decide +kernel
theorem dX10_go_60 : decode cX10_go 60 = .ok (.aload_n 0, 1) := by decide +kernel
theorem dX10_go_61 : decode cX10_go 61 = .ok (.iload_n 2, 1) := by decide +kernel
theorem dX10_go_62 : decode cX10_go 62 = .ok (.iload_n 3, 1) := by decide +kernel
theorem dX10_go_63 : decode cX10_go 63 = .ok (.invokevirtual 154, 3) := by decide +kernel
theorem dX10_go_66 : decode cX10_go 66 = .ok (.goto 146, 3) := by decide +kernel
theorem dX10_go_69 : decode cX10_go 69 = .ok (.iload 4, 2) := by decide +kernel
theorem dX10_go_71 : decode cX10_go 71 = .ok (.bipush 6, 2) := by decide +kernel
theorem dX10_go_73 : decode cX10_go 73 = .ok (.if_icmp .ne 54, 3) := by decide +kernel
theorem dX10_go_76 : decode cX10_go 76 = .ok (.aload_n 0, 1) := by decide +kernel
theorem dX10_go_77 : decode cX10_go 77 = .ok (.iload_n 2, 1) := by decide +kernel
theorem dX10_go_78 : decode cX10_go 78 = .ok (.iconst 0, 1) := by decide +kernel
theorem dX10_go_79 : decode cX10_go 79 = .ok (.iload_n 3, 1) := by decide +kernel
theorem dX10_go_80 : decode cX10_go 80 = .ok (.aload_n 0, 1) := by decide +kernel
theorem dX10_go_81 : decode cX10_go 81 = .ok (.getfield 96, 3) := by decide +kernel
theorem dX10_go_84 : decode cX10_go 84 = .ok (.iconst 0, 1) := by decide +kernel
theorem dX10_go_85 : decode cX10_go 85 = .ok (.iaload, 1) := by decide +kernel
theorem dX10_go_86 : decode cX10_go 86 = .ok (.iconst 1, 1) := by decide +kernel
theorem dX10_go_87 : decode cX10_go 87 = .ok (.if_icmp .ne 7, 3) := by decide +kernel
theorem dX10_go_90 : decode cX10_go 90 = .ok (.iconst 1, 1) := by decide +kernel
theorem dX10_go_91 : decode cX10_go 91 = .ok (.goto 4, 3) := by decide +kernel
theorem dX10_go_94 : decode cX10_go 94 = .ok (.iconst 0, 1) := by decide +kernel
theorem dX10_go_95 : decode cX10_go 95 = .ok (.aload_n 0, 1) := by decide +kernel
theorem dX10_go_96 : decode cX10_go 96 = .ok (.getfield 96, 3) := by decide +kernel
theorem dX10_go_99 : decode cX10_go 99 = .ok (.iconst 0, 1) := by decide +kernel
theorem dX10_go_100 : decode cX10_go 100 = .ok (.iaload, 1) := by decide +kernel
theorem dX10_go_101 : decode cX10_go 101 = .ok (.iconst 1, 1) := by decide +kernel
theorem dX10_go_102 : decode cX10_go 102 = .ok (.if_icmp .ne 12, 3) := by decide +kernel
theorem dX10_go_105 : decode cX10_go 105 = .ok (.aload_n 0, 1) := by decide +kernel
theorem dX10_go_106 : decode cX10_go 106 = .ok (.getfield 99, 3) := by decide +kernel
theorem dX10_go_109 : decode cX10_go 109 = .ok (.iconst 0, 1) := by decide +kernel
theorem dX10_go_110 : decode cX10_go 110 = .ok (.laload, 1) := by decide +kernel
theorem dX10_go_111 : decode cX10_go 111 = .ok (.goto 10, 3) := by decide +kernel
theorem dX10_go_114 : decode cX10_go 114 = .ok (.aload_n 0, 1) := by decide +kernel
theorem dX10_go_115 : decode cX10_go 115 = .ok (.getfield 13, 3) := by decide +kernel
theorem dX10_go_118 : decode cX10_go 118 = .ok (.iload_n 2, 1) := by decide +kernel
theorem dX10_go_119 : decode cX10_go 119 = .ok (.iaload, 1) := by decide +kernel
theorem dX10_go_120 : decode cX10_go 120 = .ok (.i2l, 1) := by decide +kernel
theorem dX10_go_121 : decode cX10_go 121 = .ok (.invokevirtual 147, 3) := by decide +kernel
theorem dX10_go_124 : decode cX10_go 124 = .ok (.goto 88, 3) := by decide +kernel
theorem dX10_go_127 : decode cX10_go 127 = .ok (.iload 4, 2) := by decide +kernel
theorem dX10_go_129 : decode cX10_go 129 = .ok (.bipush 7, 2) := by decide +kernel
theorem dX10_go_131 : decode cX10_go 131 = .ok (.if_icmp .ne 12, 3) := by decide +kernel
theorem dX10_go_134 : decode cX10_go 134 = .ok (.aload_n 0, 1) := by decide +kernel
theorem dX10_go_135 : decode cX10_go 135 = .ok (.iload_n 2, 1) := by decide +kernel
theorem dX10_go_136 : decode cX10_go 136 = .ok (.iload_n 3, 1) := by decide +kernel
theorem dX10_go_137 : decode cX10_go 137 = .ok (.invokevirtual 157, 3) := by decide +kernel
theorem dX10_go_140 : decode cX10_go 140 = .ok (.goto 72, 3) := by decide +kernel
theorem dX10_go_143 : decode cX10_go 143 = .ok (.iload 4, 2) := by decide +kernel
theorem dX10_go_145 : decode cX10_go 145 = .ok (.bipush 11, 2) := by decide +kernel
theorem dX10_go_147 : decode cX10_go 147 = .ok (.if_icmp .gt 12, 3) := by decide +kernel
theorem dX10_go_150 : decode cX10_go 150 = .ok (.aload_n 0, 1) := by decide +kernel
theorem dX10_go_151 : decode cX10_go 151 = .ok (.iload_n 2, 1) := by decide +kernel
theorem dX10_go_152 : decode cX10_go 152 = .ok (.iload_n 3, 1) := by decide +kernel
theorem dX10_go_153 : decode cX10_go 153 = .ok (.invokevirtual 160, 3) := by decide +kernel
theorem dX10_go_156 : decode cX10_go 156 = .ok (.goto 56, 3) := by decide +kernel
theorem dX10_go_159 : decode cX10_go 159 = .ok (.iload 4, 2) := by decide +kernel
theorem dX10_go_161 : decode cX10_go 161 = .ok (.bipush 13, 2) := by decide +kernel
theorem dX10_go_163 : decode cX10_go 163 = .ok (.if_icmp .gt 12, 3) := by decide +kernel
theorem dX10_go_166 : decode cX10_go 166 = .ok (.aload_n 0, 1) := by decide +kernel
theorem dX10_go_167 : decode cX10_go 167 = .ok (.iload_n 2, 1) := by decide +kernel
theorem dX10_go_168 : decode cX10_go 168 = .ok (.iload_n 3, 1) := by decide +kernel
theorem dX10_go_169 : decode cX10_go 169 = .ok (.invokevirtual 163, 3) := by decide +kernel
theorem dX10_go_172 : decode cX10_go 172 = .ok (.goto 40, 3) := by decide +kernel
theorem dX10_go_175 : decode cX10_go 175 = .ok (.iload 4, 2) := by decide +kernel
theorem dX10_go_177 : decode cX10_go 177 = .ok (.bipush 14, 2) := by decide +kernel
theorem dX10_go_179 : decode cX10_go 179 = .ok (.if_icmp .ne 12, 3) := by decide +kernel
theorem dX10_go_182 : decode cX10_go 182 = .ok (.aload_n 0, 1) := by decide +kernel
theorem dX10_go_183 : decode cX10_go 183 = .ok (.iload_n 2, 1) := by decide +kernel
theorem dX10_go_184 : decode cX10_go 184 = .ok (.iload_n 3, 1) := by decide +kernel
theorem dX10_go_185 : decode cX10_go 185 = .ok (.invokevirtual 166, 3) := by decide +kernel
theorem dX10_go_188 : decode cX10_go 188 = .ok (.goto 24, 3) := by decide +kernel
theorem dX10_go_191 : decode cX10_go 191 = .ok (.iload 4, 2) := by decide +kernel
theorem dX10_go_193 : decode cX10_go 193 = .ok (.bipush 17, 2) := by decide +kernel
theorem dX10_go_195 : decode cX10_go 195 = .ok (.if_icmp .ne 11, 3) := by decide +kernel
theorem dX10_go_198 : decode cX10_go 198 = .ok (.aload_n 0, 1) := by decide +kernel
theorem dX10_go_199 : decode cX10_go 199 = .ok (.iload_n 3, 1) := by decide +kernel
theorem dX10_go_200 : decode cX10_go 200 = .ok (.invokevirtual 169, 3) := by decide +kernel
theorem dX10_go_203 : decode cX10_go 203 = .ok (.goto 9, 3) := by decide +kernel
theorem dX10_go_206 : decode cX10_go 206 = .ok (.aload_n 0, 1) := by decide +kernel
theorem dX10_go_207 : decode cX10_go 207 = .ok (.iload_n 2, 1) := by decide +kernel
theorem dX10_go_208 : decode cX10_go 208 = .ok (.iload_n 3, 1) := by decide +kernel
theorem dX10_go_209 : decode cX10_go 209 = .ok (.invokevirtual 172, 3) := by decide +kernel
theorem dX10_go_212 : decode cX10_go 212 = .ok (.return_, 1) := by decide +kernel
theorem dX10_keepResult_0 : decode cX10_keepResult 0 = .ok (.aload_n 0, 1) := by decide +kernel
theorem dX10_keepResult_1 : decode cX10_keepResult 1 = .ok (.getfield 87, 3) := by decide +kernel
theorem dX10_keepResult_4 : decode cX10_keepResult 4 = .ok (.aload_n 0, 1) := by decide +kernel
theorem dX10_keepResult_5 : decode cX10_keepResult 5 = .ok (.getfield 175, 3) := by decide +kernel
theorem dX10_keepResult_8 : decode cX10_keepResult 8 = .ok (.aload_n 0, 1) := by decide +kernel
theorem dX10_keepResult_9 : decode cX10_keepResult 9 = .ok (.getfield 96, 3) := by decide +kernel
theorem dX10_keepResult_12 : decode cX10_keepResult 12 = .ok (.iconst 0, 1) := by decide +kernel
theorem dX10_keepResult_13 : decode cX10_keepResult 13 = .ok (.iaload, 1) := by decide +kernel
theorem dX10_keepResult_14 : decode cX10_keepResult 14 = .ok (.iastore, 1) := by decide +kernel
theorem dX10_keepResult_15 : decode cX10_keepResult 15 = .ok (.aload_n 0, 1) := by decide +kernel
theorem dX10_keepResult_16 : decode cX10_keepResult 16 = .ok (.getfield 90, 3) := by decide +kernel
theorem dX10_keepResult_19 : decode cX10_keepResult 19 = .ok (.aload_n 0, 1) := by decide +kernel
theorem dX10_keepResult_20 : decode cX10_keepResult 20 = .ok (.getfield 175, 3) := by decide +kernel
theorem dX10_keepResult_23 : decode cX10_keepResult 23 = .ok (.aload_n 0, 1) := by decide +kernel
theorem dX10_keepResult_24 : decode cX10_keepResult 24 = .ok (.getfield 99, 3) := by decide +kernel
theorem dX10_keepResult_27 : decode cX10_keepResult 27 = .ok (.iconst 0, 1) := by decide +kernel
theorem dX10_keepResult_28 : decode cX10_keepResult 28 = .ok (.laload, 1) := by decide +kernel
theorem dX10_keepResult_29 : decode cX10_keepResult 29 = .ok (.lastore, 1) := by decide +kernel
theorem dX10_keepResult_30 : decode cX10_keepResult 30 = .ok (.aload_n 0, 1) := by decide +kernel
theorem dX10_keepResult_31 : decode cX10_keepResult 31 = .ok (.getfield 93, 3) := by decide +kernel
theorem dX10_keepResult_34 : decode cX10_keepResult 34 = .ok (.aload_n 0, 1) := by decide +kernel
theorem dX10_keepResult_35 : decode cX10_keepResult 35 = .ok (.getfield 175, 3) := by decide +kernel
theorem dX10_keepResult_38 : decode cX10_keepResult 38 = .ok (.iload_n 1, 1) := by decide +kernel
theorem dX10_keepResult_39 : decode cX10_keepResult 39 = .ok (.iastore, 1) := by decide +kernel
theorem dX10_keepResult_40 : decode cX10_keepResult 40 = .ok (.aload_n 0, 1) := by decide +kernel
theorem dX10_keepResult_41 : decode cX10_keepResult 41 = .ok (.dup, 1) := by decide +kernel
theorem dX10_keepResult_42 : decode cX10_keepResult 42 = .ok (.getfield 175, 3) := by decide +kernel
theorem dX10_keepResult_45 : decode cX10_keepResult 45 = .ok (.iconst 1, 1) := by decide +kernel
theorem dX10_keepResult_46 : decode cX10_keepResult 46 = .ok (.iadd, 1) := by decide +kernel
theorem dX10_keepResult_47 : decode cX10_keepResult 47 = .ok (.putfield 175, 3) := by decide +kernel
theorem dX10_keepResult_50 : decode cX10_keepResult 50 = .ok (.return_, 1) := by decide +kernel
theorem dX10_reckon_0 : decode cX10_reckon 0 = .ok (.aload_n 0, 1) := by decide +kernel
theorem dX10_reckon_1 : decode cX10_reckon 1 = .ok (.iconst 2, 1) := by decide +kernel
theorem dX10_reckon_2 : decode cX10_reckon 2 = .ok (.invokevirtual 178, 3) := by decide +kernel
theorem dX10_reckon_5 : decode cX10_reckon 5 = .ok (.istore_n 3, 1) := by decide +kernel
theorem dX10_reckon_6 : decode cX10_reckon 6 = .ok (.iload_n 3, 1) := by decide +kernel
theorem dX10_reckon_7 : decode cX10_reckon 7 = .ok (.ifCond .ne 25, 3) := by decide +kernel
theorem dX10_reckon_10 : decode cX10_reckon 10 = .ok (.aload_n 0, 1) := by decide +kernel
theorem dX10_reckon_11 : decode cX10_reckon 11 = .ok (.getfield 96, 3) := by decide +kernel
theorem dX10_reckon_14 : decode cX10_reckon 14 = .ok (.iconst 0, 1) := by decide +kernel
theorem dX10_reckon_15 : decode cX10_reckon 15 = .ok (.iaload, 1) := by decide +kernel
theorem dX10_reckon_16 : decode cX10_reckon 16 = .ok (.iconst 2, 1) := by decide +kernel
theorem dX10_reckon_17 : decode cX10_reckon 17 = .ok (.if_icmp .eq 13, 3) := by decide +kernel
theorem dX10_reckon_20 : decode cX10_reckon 20 = .ok (.aload_n 0, 1) := by decide +kernel
theorem dX10_reckon_21 : decode cX10_reckon 21 = .ok (.getfield 96, 3) := by decide +kernel
theorem dX10_reckon_24 : decode cX10_reckon 24 = .ok (.iconst 1, 1) := by decide +kernel
theorem dX10_reckon_25 : decode cX10_reckon 25 = .ok (.iaload, 1) := by decide +kernel
theorem dX10_reckon_26 : decode cX10_reckon 26 = .ok (.iconst 2, 1) := by decide +kernel
theorem dX10_reckon_27 : decode cX10_reckon 27 = .ok (.if_icmp .ne 5, 3) := by decide +kernel
theorem dX10_reckon_30 : decode cX10_reckon 30 = .ok (.iconst 4, 1) := by decide +kernel
theorem dX10_reckon_31 : decode cX10_reckon 31 = .ok (.istore_n 3, 1) := by decide +kernel
theorem dX10_reckon_32 : decode cX10_reckon 32 = .ok (.iload_n 3, 1) := by decide +kernel
theorem dX10_reckon_33 : decode cX10_reckon 33 = .ok (.ifCond .ne 26, 3) := by decide +kernel
theorem dX10_reckon_36 : decode cX10_reckon 36 = .ok (.aload_n 0, 1) := by decide +kernel
theorem dX10_reckon_37 : decode cX10_reckon 37 = .ok (.getfield 7, 3) := by decide +kernel
theorem dX10_reckon_40 : decode cX10_reckon 40 = .ok (.iload_n 1, 1) := by decide +kernel
theorem dX10_reckon_41 : decode cX10_reckon 41 = .ok (.iaload, 1) := by decide +kernel
theorem dX10_reckon_42 : decode cX10_reckon 42 = .ok (.iconst 4, 1) := by decide +kernel
theorem dX10_reckon_43 : decode cX10_reckon 43 = .ok (.if_icmp .ne 16, 3) := by decide +kernel
theorem dX10_reckon_46 : decode cX10_reckon 46 = .ok (.aload_n 0, 1) := by decide +kernel
theorem dX10_reckon_47 : decode cX10_reckon 47 = .ok (.getfield 99, 3) := by decide +kernel
theorem dX10_reckon_50 : decode cX10_reckon 50 = .ok (.iconst 1, 1) := by decide +kernel
theorem dX10_reckon_51 : decode cX10_reckon 51 = .ok (.laload, 1) := by decide +kernel
theorem dX10_reckon_52 : decode cX10_reckon 52 = .ok (.lconst 0, 1) := by decide +kernel
theorem dX10_reckon_53 : decode cX10_reckon 53 = .ok (.lcmp, 1) := by decide +kernel
theorem dX10_reckon_54 : decode cX10_reckon 54 = .ok (.ifCond .ne 5, 3) := by decide +kernel
theorem dX10_reckon_57 : decode cX10_reckon 57 = .ok (.iconst 1, 1) := by decide +kernel
theorem dX10_reckon_58 : decode cX10_reckon 58 = .ok (.istore_n 3, 1) := by decide +kernel
theorem dX10_reckon_59 : decode cX10_reckon 59 = .ok (.iload_n 3, 1) := by decide +kernel
theorem dX10_reckon_60 : decode cX10_reckon 60 = .ok (.ifCond .le 11, 3) := by decide +kernel
theorem dX10_reckon_63 : decode cX10_reckon 63 = .ok (.aload_n 0, 1) := by decide +kernel
theorem dX10_reckon_64 : decode cX10_reckon 64 = .ok (.iload_n 1, 1) := by decide +kernel
theorem dX10_reckon_65 : decode cX10_reckon 65 = .ok (.iload_n 2, 1) := by decide +kernel
theorem dX10_reckon_66 : decode cX10_reckon 66 = .ok (.iload_n 3, 1) := by decide +kernel
theorem dX10_reckon_67 : decode cX10_reckon 67 = .ok (.invokevirtual 181, 3) := by decide +kernel
theorem dX10_reckon_70 : decode cX10_reckon 70 = .ok (.return_, 1) := by decide +kernel
theorem dX10_reckon_71 : decode cX10_reckon 71 = .ok (.aload_n 0, 1) := by decide +kernel
theorem dX10_reckon_72 : decode cX10_reckon 72 = .ok (.getfield 99, 3) := by decide +kernel
theorem dX10_reckon_75 : decode cX10_reckon 75 = .ok (.iconst 0, 1) := by decide +kernel
theorem dX10_reckon_76 : decode cX10_reckon 76 = .ok (.laload, 1) := by decide +kernel
theorem dX10_reckon_77 : decode cX10_reckon 77 = .ok (.lstore 4, 2) := by decide +kernel
theorem dX10_reckon_79 : decode cX10_reckon 79 = .ok (.aload_n 0, 1) := by decide +kernel
theorem dX10_reckon_80 : decode cX10_reckon 80 = .ok (.getfield 99, 3) := by decide +kernel
theorem dX10_reckon_83 : decode cX10_reckon 83 = .ok (.iconst 1, 1) := by decide +kernel
theorem dX10_reckon_84 : decode cX10_reckon 84 = .ok (.laload, 1) := by decide +kernel
theorem dX10_reckon_85 : decode cX10_reckon 85 = .ok (.lstore 6, 2) := by decide +kernel
theorem dX10_reckon_87 : decode cX10_reckon 87 = .ok (.aload_n 0, 1) := by decide +kernel
theorem dX10_reckon_88 : decode cX10_reckon 88 = .ok (.getfield 7, 3) := by decide +kernel
theorem dX10_reckon_91 : decode cX10_reckon 91 = .ok (.iload_n 1, 1) := by decide +kernel
theorem dX10_reckon_92 : decode cX10_reckon 92 = .ok (.iaload, 1) := by decide +kernel
theorem dX10_reckon_93 : decode cX10_reckon 93 = .ok (.tableswitch 86 1 4 #[31, 41, 51, 61], 31) := by decide +kernel
theorem dX10_reckon_124 : decode cX10_reckon 124 = .ok (.lload 4, 2) := by decide +kernel
theorem dX10_reckon_126 : decode cX10_reckon 126 = .ok (.lload 6, 2) := by decide +kernel
theorem dX10_reckon_128 : decode cX10_reckon 128 = .ok (.ladd, 1) := by decide +kernel
theorem dX10_reckon_129 : decode cX10_reckon 129 = .ok (.lstore 8, 2) := by decide +kernel
theorem dX10_reckon_131 : decode cX10_reckon 131 = .ok (.goto 63, 3) := by decide +kernel
theorem dX10_reckon_134 : decode cX10_reckon 134 = .ok (.lload 4, 2) := by decide +kernel
theorem dX10_reckon_136 : decode cX10_reckon 136 = .ok (.lload 6, 2) := by decide +kernel
theorem dX10_reckon_138 : decode cX10_reckon 138 = .ok (.lsub, 1) := by decide +kernel
theorem dX10_reckon_139 : decode cX10_reckon 139 = .ok (.lstore 8, 2) := by decide +kernel
theorem dX10_reckon_141 : decode cX10_reckon 141 = .ok (.goto 53, 3) := by decide +kernel
theorem dX10_reckon_144 : decode cX10_reckon 144 = .ok (.lload 4, 2) := by decide +kernel
theorem dX10_reckon_146 : decode cX10_reckon 146 = .ok (.lload 6, 2) := by decide +kernel
theorem dX10_reckon_148 : decode cX10_reckon 148 = .ok (.lmul, 1) := by decide +kernel
theorem dX10_reckon_149 : decode cX10_reckon 149 = .ok (.lstore 8, 2) := by decide +kernel
theorem dX10_reckon_151 : decode cX10_reckon 151 = .ok (.goto 43, 3) := by decide +kernel
theorem dX10_reckon_154 : decode cX10_reckon 154 = .ok (.lload 6, 2) := by decide +kernel
theorem dX10_reckon_156 : decode cX10_reckon 156 = .ok (.ldc2_w 185, 3) := by decide +kernel
theorem dX10_reckon_159 : decode cX10_reckon 159 = .ok (.lcmp, 1) := by decide +kernel
theorem dX10_reckon_160 : decode cX10_reckon 160 = .ok (.ifCond .ne 9, 3) := by decide +kernel
theorem dX10_reckon_163 : decode cX10_reckon 163 = .ok (.lload 4, 2) := by decide +kernel
theorem dX10_reckon_165 : decode cX10_reckon 165 = .ok (.lneg, 1) := by decide +kernel
theorem dX10_reckon_166 : decode cX10_reckon 166 = .ok (.goto 8, 3) := by decide +kernel
theorem dX10_reckon_169 : decode cX10_reckon 169 = .ok (.lload 4, 2) := by decide +kernel
theorem dX10_reckon_171 : decode cX10_reckon 171 = .ok (.lload 6, 2) := by decide +kernel
theorem dX10_reckon_173 : decode cX10_reckon 173 = .ok (.ldiv, 1) := by decide +kernel
theorem dX10_reckon_174 : decode cX10_reckon 174 = .ok (.lstore 8, 2) := by decide +kernel
theorem dX10_reckon_176 : decode cX10_reckon 176 = .ok (.goto 18, 3) := by decide +kernel
theorem dX10_reckon_179 : decode cX10_reckon 179 = .ok (.lload 4, 2) := by decide +kernel
theorem dX10_reckon_181 : decode cX10_reckon 181 = .ok (.lload 6, 2) := by decide +kernel
theorem dX10_reckon_183 : decode cX10_reckon 183 = .ok (.lcmp, 1) := by decide +kernel
theorem dX10_reckon_184 : decode cX10_reckon 184 = .ok (.ifCond .ge 7, 3) := by decide +kernel
theorem dX10_reckon_187 : decode cX10_reckon 187 = .ok (.lconst 1, 1) := by decide +kernel
theorem dX10_reckon_188 : decode cX10_reckon 188 = .ok (.goto 4, 3) := by decide +kernel
theorem dX10_reckon_191 : decode cX10_reckon 191 = .ok (.lconst 0, 1) := by decide +kernel
theorem dX10_reckon_192 : decode cX10_reckon 192 = .ok (.lstore 8, 2) := by decide +kernel
theorem dX10_reckon_194 : decode cX10_reckon 194 = .ok (.aload_n 0, 1) := by decide +kernel
theorem dX10_reckon_195 : decode cX10_reckon 195 = .ok (.iload_n 1, 1) := by decide +kernel
theorem dX10_reckon_196 : decode cX10_reckon 196 = .ok (.iconst 0, 1) := by decide +kernel
theorem dX10_reckon_197 : decode cX10_reckon 197 = .ok (.iload_n 2, 1) := by decide +kernel
theorem dX10_reckon_198 : decode cX10_reckon 198 = .ok (.iconst 0, 1) := by decide +kernel
theorem dX10_reckon_199 : decode cX10_reckon 199 = .ok (.lload 8, 2) := by decide +kernel
theorem dX10_reckon_201 : decode cX10_reckon 201 = .ok (.invokevirtual 147, 3) := by decide +kernel
theorem dX10_reckon_204 : decode cX10_reckon 204 = .ok (.return_, 1) := by decide +kernel
theorem dX10_part_0 : decode cX10_part 0 = .ok (.aload_n 0, 1) := by decide +kernel
theorem dX10_part_1 : decode cX10_part 1 = .ok (.getfield 96, 3) := by decide +kernel
theorem dX10_part_4 : decode cX10_part 4 = .ok (.iconst 1, 1) := by decide +kernel
theorem dX10_part_5 : decode cX10_part 5 = .ok (.iaload, 1) := by decide +kernel
theorem dX10_part_6 : decode cX10_part 6 = .ok (.ifCond .ne 38, 3) := by decide +kernel
theorem dX10_part_9 : decode cX10_part 9 = .ok (.aload_n 0, 1) := by decide +kernel
theorem dX10_part_10 : decode cX10_part 10 = .ok (.iload_n 1, 1) := by decide +kernel
theorem dX10_part_11 : decode cX10_part 11 = .ok (.aload_n 0, 1) := by decide +kernel
theorem dX10_part_12 : decode cX10_part 12 = .ok (.getfield 99, 3) := by decide +kernel
theorem dX10_part_15 : decode cX10_part 15 = .ok (.iconst 1, 1) := by decide +kernel
theorem dX10_part_16 : decode cX10_part 16 = .ok (.laload, 1) := by decide +kernel
theorem dX10_part_17 : decode cX10_part 17 = .ok (.lconst 0, 1) := by decide +kernel
theorem dX10_part_18 : decode cX10_part 18 = .ok (.lcmp, 1) := by decide +kernel
theorem dX10_part_19 : decode cX10_part 19 = .ok (.ifCond .ne 7, 3) := by decide +kernel
theorem dX10_part_22 : decode cX10_part 22 = .ok (.iconst 0, 1) := by decide +kernel
theorem dX10_part_23 : decode cX10_part 23 = .ok (.goto 4, 3) := by decide +kernel
theorem dX10_part_26 : decode cX10_part 26 = .ok (.iconst 1, 1) := by decide +kernel
theorem dX10_part_27 : decode cX10_part 27 = .ok (.iload_n 2, 1) := by decide +kernel
theorem dX10_part_28 : decode cX10_part 28 = .ok (.aload_n 0, 1) := by decide +kernel
theorem dX10_part_29 : decode cX10_part 29 = .ok (.getfield 96, 3) := by decide +kernel
theorem dX10_part_32 : decode cX10_part 32 = .ok (.iconst 0, 1) := by decide +kernel
theorem dX10_part_33 : decode cX10_part 33 = .ok (.iaload, 1) := by decide +kernel
theorem dX10_part_34 : decode cX10_part 34 = .ok (.aload_n 0, 1) := by decide +kernel
theorem dX10_part_35 : decode cX10_part 35 = .ok (.getfield 99, 3) := by decide +kernel
theorem dX10_part_38 : decode cX10_part 38 = .ok (.iconst 0, 1) := by decide +kernel
theorem dX10_part_39 : decode cX10_part 39 = .ok (.laload, 1) := by decide +kernel
theorem dX10_part_40 : decode cX10_part 40 = .ok (.invokevirtual 147, 3) := by decide +kernel
theorem dX10_part_43 : decode cX10_part 43 = .ok (.return_, 1) := by decide +kernel
theorem dX10_part_44 : decode cX10_part 44 = .ok (.aload_n 0, 1) := by decide +kernel
theorem dX10_part_45 : decode cX10_part 45 = .ok (.getfield 96, 3) := by decide +kernel
theorem dX10_part_48 : decode cX10_part 48 = .ok (.iconst 1, 1) := by decide +kernel
theorem dX10_part_49 : decode cX10_part 49 = .ok (.iaload, 1) := by decide +kernel
theorem dX10_part_50 : decode cX10_part 50 = .ok (.iconst 1, 1) := by decide +kernel
theorem dX10_part_51 : decode cX10_part 51 = .ok (.if_icmp .ne 12, 3) := by decide +kernel
theorem dX10_part_54 : decode cX10_part 54 = .ok (.aload_n 0, 1) := by decide +kernel
theorem dX10_part_55 : decode cX10_part 55 = .ok (.getfield 99, 3) := by decide +kernel
theorem dX10_part_58 : decode cX10_part 58 = .ok (.iconst 1, 1) := by decide +kernel
theorem dX10_part_59 : decode cX10_part 59 = .ok (.laload, 1) := by decide +kernel
theorem dX10_part_60 : decode cX10_part 60 = .ok (.goto 6, 3) := by decide +kernel
theorem dX10_part_63 : decode cX10_part 63 = .ok (.ldc2_w 187, 3) := by decide +kernel
theorem dX10_part_66 : decode cX10_part 66 = .ok (.lstore_n 3, 1) := by decide +kernel
theorem dX10_part_67 : decode cX10_part 67 = .ok (.aload_n 0, 1) := by decide +kernel
theorem dX10_part_68 : decode cX10_part 68 = .ok (.iload_n 1, 1) := by decide +kernel
theorem dX10_part_69 : decode cX10_part 69 = .ok (.iconst 0, 1) := by decide +kernel
theorem dX10_part_70 : decode cX10_part 70 = .ok (.iload_n 2, 1) := by decide +kernel
theorem dX10_part_71 : decode cX10_part 71 = .ok (.iconst 1, 1) := by decide +kernel
theorem dX10_part_72 : decode cX10_part 72 = .ok (.lload_n 3, 1) := by decide +kernel
theorem dX10_part_73 : decode cX10_part 73 = .ok (.invokevirtual 147, 3) := by decide +kernel
theorem dX10_part_76 : decode cX10_part 76 = .ok (.aload_n 0, 1) := by decide +kernel
theorem dX10_part_77 : decode cX10_part 77 = .ok (.iload_n 1, 1) := by decide +kernel
theorem dX10_part_78 : decode cX10_part 78 = .ok (.iconst 1, 1) := by decide +kernel
theorem dX10_part_79 : decode cX10_part 79 = .ok (.iload_n 2, 1) := by decide +kernel
theorem dX10_part_80 : decode cX10_part 80 = .ok (.iconst 1, 1) := by decide +kernel
theorem dX10_part_81 : decode cX10_part 81 = .ok (.lload_n 3, 1) := by decide +kernel
theorem dX10_part_82 : decode cX10_part 82 = .ok (.invokevirtual 147, 3) := by decide +kernel
theorem dX10_part_85 : decode cX10_part 85 = .ok (.return_, 1) := by decide +kernel
theorem dX10_turn_0 : decode cX10_turn 0 = .ok (.aload_n 0, 1) := by decide +kernel
theorem dX10_turn_1 : decode cX10_turn 1 = .ok (.getfield 7, 3) := by decide +kernel
theorem dX10_turn_4 : decode cX10_turn 4 = .ok (.iload_n 1, 1) := by decide +kernel
theorem dX10_turn_5 : decode cX10_turn 5 = .ok (.iaload, 1) := by decide +kernel
theorem dX10_turn_6 : decode cX10_turn 6 = .ok (.istore_n 3, 1) := by decide +kernel
theorem dX10_turn_7 : decode cX10_turn 7 = .ok (.iconst 0, 1) := by decide +kernel
theorem dX10_turn_8 : decode cX10_turn 8 = .ok (.istore 4, 2) := by decide +kernel
theorem dX10_turn_10 : decode cX10_turn 10 = .ok (.iload_n 3, 1) := by decide +kernel
theorem dX10_turn_11 : decode cX10_turn 11 = .ok (.bipush 8, 2) := by decide +kernel
theorem dX10_turn_13 : decode cX10_turn 13 = .ok (.if_icmp .ne 20, 3) := by decide +kernel
theorem dX10_turn_16 : decode cX10_turn 16 = .ok (.aload_n 0, 1) := by decide +kernel
theorem dX10_turn_17 : decode cX10_turn 17 = .ok (.iload_n 2, 1) := by decide +kernel
theorem dX10_turn_18 : decode cX10_turn 18 = .ok (.aload_n 0, 1) := by decide +kernel
theorem dX10_turn_19 : decode cX10_turn 19 = .ok (.getfield 13, 3) := by decide +kernel
theorem dX10_turn_22 : decode cX10_turn 22 = .ok (.iload_n 1, 1) := by decide +kernel
theorem dX10_turn_23 : decode cX10_turn 23 = .ok (.iaload, 1) := by decide +kernel
theorem dX10_turn_24 : decode cX10_turn 24 = .ok (.iconst 0, 1) := by decide +kernel
theorem dX10_turn_25 : decode cX10_turn 25 = .ok (.invokevirtual 189, 3) := by decide +kernel
theorem dX10_turn_28 : decode cX10_turn 28 = .ok (.istore 4, 2) := by decide +kernel
theorem dX10_turn_30 : decode cX10_turn 30 = .ok (.goto 58, 3) := by decide +kernel
theorem dX10_turn_33 : decode cX10_turn 33 = .ok (.iload_n 2, 1) := by decide +kernel
theorem dX10_turn_34 : decode cX10_turn 34 = .ok (.ifCond .le 54, 3) := by decide +kernel
theorem dX10_turn_37 : decode cX10_turn 37 = .ok (.iload_n 3, 1) := by decide +kernel
theorem dX10_turn_38 : decode cX10_turn 38 = .ok (.bipush 11, 2) := by decide +kernel
theorem dX10_turn_40 : decode cX10_turn 40 = .ok (.if_icmp .ne 12, 3) := by decide +kernel
theorem dX10_turn_43 : decode cX10_turn 43 = .ok (.aload_n 0, 1) := by decide +kernel
theorem dX10_turn_44 : decode cX10_turn 44 = .ok (.getfield 32, 3) := by decide +kernel
theorem dX10_turn_47 : decode cX10_turn 47 = .ok (.iload_n 2, 1) := by decide +kernel
theorem dX10_turn_48 : decode cX10_turn 48 = .ok (.iaload, 1) := by decide +kernel
theorem dX10_turn_49 : decode cX10_turn 49 = .ok (.goto 37, 3) := by decide +kernel
theorem dX10_turn_52 : decode cX10_turn 52 = .ok (.aload_n 0, 1) := by decide +kernel
theorem dX10_turn_53 : decode cX10_turn 53 = .ok (.aload_n 0, 1) := by decide +kernel
theorem dX10_turn_54 : decode cX10_turn 54 = .ok (.getfield 32, 3) := by decide +kernel
theorem dX10_turn_57 : decode cX10_turn 57 = .ok (.iload_n 2, 1) := by decide +kernel
theorem dX10_turn_58 : decode cX10_turn 58 = .ok (.iaload, 1) := by decide +kernel
theorem dX10_turn_59 : decode cX10_turn 59 = .ok (.aload_n 0, 1) := by decide +kernel
theorem dX10_turn_60 : decode cX10_turn 60 = .ok (.getfield 35, 3) := by decide +kernel
theorem dX10_turn_63 : decode cX10_turn 63 = .ok (.iload_n 2, 1) := by decide +kernel
theorem dX10_turn_64 : decode cX10_turn 64 = .ok (.iaload, 1) := by decide +kernel
theorem dX10_turn_65 : decode cX10_turn 65 = .ok (.iload_n 3, 1) := by decide +kernel
theorem dX10_turn_66 : decode cX10_turn 66 = .ok (.bipush 9, 2) := by decide +kernel
theorem dX10_turn_68 : decode cX10_turn 68 = .ok (.if_icmp .ne 14, 3) := by decide +kernel
theorem dX10_turn_71 : decode cX10_turn 71 = .ok (.aload_n 0, 1) := by decide +kernel
theorem dX10_turn_72 : decode cX10_turn 72 = .ok (.getfield 38, 3) := by decide +kernel
theorem dX10_turn_75 : decode cX10_turn 75 = .ok (.iload_n 2, 1) := by decide +kernel
theorem dX10_turn_76 : decode cX10_turn 76 = .ok (.iaload, 1) := by decide +kernel
theorem dX10_turn_77 : decode cX10_turn 77 = .ok (.iconst 1, 1) := by decide +kernel
theorem dX10_turn_78 : decode cX10_turn 78 = .ok (.iadd, 1) := by decide +kernel
theorem dX10_turn_79 : decode cX10_turn 79 = .ok (.goto 4, 3) := by decide +kernel
theorem dX10_turn_82 : decode cX10_turn 82 = .ok (.iconst 0, 1) := by decide +kernel
theorem dX10_turn_83 : decode cX10_turn 83 = .ok (.invokevirtual 189, 3) := by decide +kernel
theorem dX10_turn_86 : decode cX10_turn 86 = .ok (.istore 4, 2) := by decide +kernel
theorem dX10_turn_88 : decode cX10_turn 88 = .ok (.iload 4, 2) := by decide +kernel
theorem dX10_turn_90 : decode cX10_turn 90 = .ok (.iconst (-1), 1) := by decide +kernel
theorem dX10_turn_91 : decode cX10_turn 91 = .ok (.if_icmp .eq 23, 3) := by decide +kernel
theorem dX10_turn_94 : decode cX10_turn 94 = .ok (.aload_n 0, 1) := by decide +kernel
theorem dX10_turn_95 : decode cX10_turn 95 = .ok (.iload_n 1, 1) := by decide +kernel
theorem dX10_turn_96 : decode cX10_turn 96 = .ok (.iconst 0, 1) := by decide +kernel
theorem dX10_turn_97 : decode cX10_turn 97 = .ok (.iload 4, 2) := by decide +kernel
theorem dX10_turn_99 : decode cX10_turn 99 = .ok (.aload_n 0, 1) := by decide +kernel
theorem dX10_turn_100 : decode cX10_turn 100 = .ok (.getfield 96, 3) := by decide +kernel
theorem dX10_turn_103 : decode cX10_turn 103 = .ok (.iconst 0, 1) := by decide +kernel
theorem dX10_turn_104 : decode cX10_turn 104 = .ok (.iaload, 1) := by decide +kernel
theorem dX10_turn_105 : decode cX10_turn 105 = .ok (.aload_n 0, 1) := by decide +kernel
theorem dX10_turn_106 : decode cX10_turn 106 = .ok (.getfield 99, 3) := by decide +kernel
theorem dX10_turn_109 : decode cX10_turn 109 = .ok (.iconst 0, 1) := by decide +kernel
theorem dX10_turn_110 : decode cX10_turn 110 = .ok (.laload, 1) := by decide +kernel
theorem dX10_turn_111 : decode cX10_turn 111 = .ok (.invokevirtual 147, 3) := by decide +kernel
theorem dX10_turn_114 : decode cX10_turn 114 = .ok (.return_, 1) := by decide +kernel
theorem dX10_callOrBack_0 : decode cX10_callOrBack 0 = .ok (.aload_n 0, 1) := by decide +kernel
theorem dX10_callOrBack_1 : decode cX10_callOrBack 1 = .ok (.getfield 7, 3) := by decide +kernel
theorem dX10_callOrBack_4 : decode cX10_callOrBack 4 = .ok (.iload_n 1, 1) := by decide +kernel
theorem dX10_callOrBack_5 : decode cX10_callOrBack 5 = .ok (.iaload, 1) := by decide +kernel
theorem dX10_callOrBack_6 : decode cX10_callOrBack 6 = .ok (.bipush 12, 2) := by decide +kernel
theorem dX10_callOrBack_8 : decode cX10_callOrBack 8 = .ok (.if_icmp .ne 57, 3) := by decide +kernel
theorem dX10_callOrBack_11 : decode cX10_callOrBack 11 = .ok (.aload_n 0, 1) := by decide +kernel
theorem dX10_callOrBack_12 : decode cX10_callOrBack 12 = .ok (.aload_n 0, 1) := by decide +kernel
theorem dX10_callOrBack_13 : decode cX10_callOrBack 13 = .ok (.getfield 13, 3) := by decide +kernel
theorem dX10_callOrBack_16 : decode cX10_callOrBack 16 = .ok (.iload_n 1, 1) := by decide +kernel
theorem dX10_callOrBack_17 : decode cX10_callOrBack 17 = .ok (.iaload, 1) := by decide +kernel
theorem dX10_callOrBack_18 : decode cX10_callOrBack 18 = .ok (.invokevirtual 116, 3) := by decide +kernel
theorem dX10_callOrBack_21 : decode cX10_callOrBack 21 = .ok (.ifCond .ne 4, 3) := by decide +kernel
theorem dX10_callOrBack_24 : decode cX10_callOrBack 24 = .ok (.return_, 1) := by decide +kernel
theorem dX10_callOrBack_25 : decode cX10_callOrBack 25 = .ok (.aload_n 0, 1) := by decide +kernel
theorem dX10_callOrBack_26 : decode cX10_callOrBack 26 = .ok (.iload_n 2, 1) := by decide +kernel
theorem dX10_callOrBack_27 : decode cX10_callOrBack 27 = .ok (.iconst (-1), 1) := by decide +kernel
theorem dX10_callOrBack_28 : decode cX10_callOrBack 28 = .ok (.iload_n 1, 1) := by decide +kernel
theorem dX10_callOrBack_29 : decode cX10_callOrBack 29 = .ok (.isub, 1) := by decide +kernel
theorem dX10_callOrBack_30 : decode cX10_callOrBack 30 = .ok (.iconst 0, 1) := by decide +kernel
theorem dX10_callOrBack_31 : decode cX10_callOrBack 31 = .ok (.invokevirtual 189, 3) := by decide +kernel
theorem dX10_callOrBack_34 : decode cX10_callOrBack 34 = .ok (.istore_n 3, 1) := by decide +kernel
theorem dX10_callOrBack_35 : decode cX10_callOrBack 35 = .ok (.iload_n 3, 1) := by decide +kernel
theorem dX10_callOrBack_36 : decode cX10_callOrBack 36 = .ok (.iconst (-1), 1) := by decide +kernel
theorem dX10_callOrBack_37 : decode cX10_callOrBack 37 = .ok (.if_icmp .eq 27, 3) := by decide +kernel
theorem dX10_callOrBack_40 : decode cX10_callOrBack 40 = .ok (.aload_n 0, 1) := by decide +kernel
theorem dX10_callOrBack_41 : decode cX10_callOrBack 41 = .ok (.aload_n 0, 1) := by decide +kernel
theorem dX10_callOrBack_42 : decode cX10_callOrBack 42 = .ok (.getfield 13, 3) := by decide +kernel
theorem dX10_callOrBack_45 : decode cX10_callOrBack 45 = .ok (.iload_n 1, 1) := by decide +kernel
theorem dX10_callOrBack_46 : decode cX10_callOrBack 46 = .ok (.iaload, 1) := by decide +kernel
theorem dX10_callOrBack_47 : decode cX10_callOrBack 47 = .ok (.iconst 0, 1) := by decide +kernel
theorem dX10_callOrBack_48 : decode cX10_callOrBack 48 = .ok (.iload_n 3, 1) := by decide +kernel
theorem dX10_callOrBack_49 : decode cX10_callOrBack 49 = .ok (.aload_n 0, 1) := by decide +kernel
theorem dX10_callOrBack_50 : decode cX10_callOrBack 50 = .ok (.getfield 96, 3) := by decide +kernel
theorem dX10_callOrBack_53 : decode cX10_callOrBack 53 = .ok (.iconst 0, 1) := by decide +kernel
theorem dX10_callOrBack_54 : decode cX10_callOrBack 54 = .ok (.iaload, 1) := by decide +kernel
theorem dX10_callOrBack_55 : decode cX10_callOrBack 55 = .ok (.aload_n 0, 1) := by decide +kernel
theorem dX10_callOrBack_56 : decode cX10_callOrBack 56 = .ok (.getfield 99, 3) := by decide +kernel
theorem dX10_callOrBack_59 : decode cX10_callOrBack 59 = .ok (.iconst 0, 1) := by decide +kernel
theorem dX10_callOrBack_60 : decode cX10_callOrBack 60 = .ok (.laload, 1) := by decide +kernel
theorem dX10_callOrBack_61 : decode cX10_callOrBack 61 = .ok (.invokevirtual 143, 3) := by decide +kernel
theorem dX10_callOrBack_64 : decode cX10_callOrBack 64 = .ok (.return_, 1) := by decide +kernel
theorem dX10_callOrBack_65 : decode cX10_callOrBack 65 = .ok (.iload_n 2, 1) := by decide +kernel
theorem dX10_callOrBack_66 : decode cX10_callOrBack 66 = .ok (.ifCond .le 14, 3) := by decide +kernel
theorem dX10_callOrBack_69 : decode cX10_callOrBack 69 = .ok (.iconst (-1), 1) := by decide +kernel
theorem dX10_callOrBack_70 : decode cX10_callOrBack 70 = .ok (.aload_n 0, 1) := by decide +kernel
theorem dX10_callOrBack_71 : decode cX10_callOrBack 71 = .ok (.getfield 35, 3) := by decide +kernel
theorem dX10_callOrBack_74 : decode cX10_callOrBack 74 = .ok (.iload_n 2, 1) := by decide +kernel
theorem dX10_callOrBack_75 : decode cX10_callOrBack 75 = .ok (.iaload, 1) := by decide +kernel
theorem dX10_callOrBack_76 : decode cX10_callOrBack 76 = .ok (.isub, 1) := by decide +kernel
theorem dX10_callOrBack_77 : decode cX10_callOrBack 77 = .ok (.goto 4, 3) := by decide +kernel
theorem dX10_callOrBack_80 : decode cX10_callOrBack 80 = .ok (.iconst (-1), 1) := by decide +kernel
theorem dX10_callOrBack_81 : decode cX10_callOrBack 81 = .ok (.istore_n 3, 1) := by decide +kernel
theorem dX10_callOrBack_82 : decode cX10_callOrBack 82 = .ok (.aload_n 0, 1) := by decide +kernel
theorem dX10_callOrBack_83 : decode cX10_callOrBack 83 = .ok (.iload_n 3, 1) := by decide +kernel
theorem dX10_callOrBack_84 : decode cX10_callOrBack 84 = .ok (.invokevirtual 116, 3) := by decide +kernel
theorem dX10_callOrBack_87 : decode cX10_callOrBack 87 = .ok (.ifCond .eq 27, 3) := by decide +kernel
theorem dX10_callOrBack_90 : decode cX10_callOrBack 90 = .ok (.aload_n 0, 1) := by decide +kernel
theorem dX10_callOrBack_91 : decode cX10_callOrBack 91 = .ok (.iload_n 3, 1) := by decide +kernel
theorem dX10_callOrBack_92 : decode cX10_callOrBack 92 = .ok (.iconst 2, 1) := by decide +kernel
theorem dX10_callOrBack_93 : decode cX10_callOrBack 93 = .ok (.aload_n 0, 1) := by decide +kernel
theorem dX10_callOrBack_94 : decode cX10_callOrBack 94 = .ok (.getfield 32, 3) := by decide +kernel
theorem dX10_callOrBack_97 : decode cX10_callOrBack 97 = .ok (.iload_n 2, 1) := by decide +kernel
theorem dX10_callOrBack_98 : decode cX10_callOrBack 98 = .ok (.iaload, 1) := by decide +kernel
theorem dX10_callOrBack_99 : decode cX10_callOrBack 99 = .ok (.aload_n 0, 1) := by decide +kernel
theorem dX10_callOrBack_100 : decode cX10_callOrBack 100 = .ok (.getfield 96, 3) := by decide +kernel
theorem dX10_callOrBack_103 : decode cX10_callOrBack 103 = .ok (.iconst 0, 1) := by decide +kernel
theorem dX10_callOrBack_104 : decode cX10_callOrBack 104 = .ok (.iaload, 1) := by decide +kernel
theorem dX10_callOrBack_105 : decode cX10_callOrBack 105 = .ok (.aload_n 0, 1) := by decide +kernel
theorem dX10_callOrBack_106 : decode cX10_callOrBack 106 = .ok (.getfield 99, 3) := by decide +kernel
theorem dX10_callOrBack_109 : decode cX10_callOrBack 109 = .ok (.iconst 0, 1) := by decide +kernel
theorem dX10_callOrBack_110 : decode cX10_callOrBack 110 = .ok (.laload, 1) := by decide +kernel
theorem dX10_callOrBack_111 : decode cX10_callOrBack 111 = .ok (.invokevirtual 147, 3) := by decide +kernel
theorem dX10_callOrBack_114 : decode cX10_callOrBack 114 = .ok (.return_, 1) := by decide +kernel
theorem dX10_make_0 : decode cX10_make 0 = .ok (.aload_n 0, 1) := by decide +kernel
theorem dX10_make_1 : decode cX10_make 1 = .ok (.iconst 1, 1) := by decide +kernel
theorem dX10_make_2 : decode cX10_make 2 = .ok (.invokevirtual 178, 3) := by decide +kernel
theorem dX10_make_5 : decode cX10_make 5 = .ok (.istore_n 3, 1) := by decide +kernel
theorem dX10_make_6 : decode cX10_make 6 = .ok (.iload_n 3, 1) := by decide +kernel
theorem dX10_make_7 : decode cX10_make 7 = .ok (.ifCond .ne 15, 3) := by decide +kernel
theorem dX10_make_10 : decode cX10_make 10 = .ok (.aload_n 0, 1) := by decide +kernel
theorem dX10_make_11 : decode cX10_make 11 = .ok (.getfield 96, 3) := by decide +kernel
theorem dX10_make_14 : decode cX10_make 14 = .ok (.iconst 0, 1) := by decide +kernel
theorem dX10_make_15 : decode cX10_make 15 = .ok (.iaload, 1) := by decide +kernel
theorem dX10_make_16 : decode cX10_make 16 = .ok (.iconst 2, 1) := by decide +kernel
theorem dX10_make_17 : decode cX10_make 17 = .ok (.if_icmp .ne 5, 3) := by decide +kernel
theorem dX10_make_20 : decode cX10_make 20 = .ok (.iconst 4, 1) := by decide +kernel
theorem dX10_make_21 : decode cX10_make 21 = .ok (.istore_n 3, 1) := by decide +kernel
theorem dX10_make_22 : decode cX10_make 22 = .ok (.iload_n 3, 1) := by decide +kernel
theorem dX10_make_23 : decode cX10_make 23 = .ok (.ifCond .ne 29, 3) := by decide +kernel
theorem dX10_make_26 : decode cX10_make 26 = .ok (.aload_n 0, 1) := by decide +kernel
theorem dX10_make_27 : decode cX10_make 27 = .ok (.getfield 99, 3) := by decide +kernel
theorem dX10_make_30 : decode cX10_make 30 = .ok (.iconst 0, 1) := by decide +kernel
theorem dX10_make_31 : decode cX10_make 31 = .ok (.laload, 1) := by decide +kernel
theorem dX10_make_32 : decode cX10_make 32 = .ok (.lconst 0, 1) := by decide +kernel
theorem dX10_make_33 : decode cX10_make 33 = .ok (.lcmp, 1) := by decide +kernel
theorem dX10_make_34 : decode cX10_make 34 = .ok (.ifCond .lt 16, 3) := by decide +kernel
theorem dX10_make_37 : decode cX10_make 37 = .ok (.aload_n 0, 1) := by decide +kernel
theorem dX10_make_38 : decode cX10_make 38 = .ok (.getfield 99, 3) := by decide +kernel
theorem dX10_make_41 : decode cX10_make 41 = .ok (.iconst 0, 1) := by decide +kernel
theorem dX10_make_42 : decode cX10_make 42 = .ok (.laload, 1) := by decide +kernel
theorem dX10_make_43 : decode cX10_make 43 = .ok (.ldc2_w 192, 3) := by decide +kernel
theorem dX10_make_46 : decode cX10_make 46 = .ok (.lcmp, 1) := by decide +kernel
theorem dX10_make_47 : decode cX10_make 47 = .ok (.ifCond .le 5, 3) := by decide +kernel
theorem dX10_make_50 : decode cX10_make 50 = .ok (.iconst 2, 1) := by decide +kernel
theorem dX10_make_51 : decode cX10_make 51 = .ok (.istore_n 3, 1) := by decide +kernel
end
section
theorem dX10_make_52 : decode cX10_make 52 = .ok (.iload_n 3, 1) := by decide +kernel
theorem dX10_make_53 : decode cX10_make 53 = .ok (.ifCond .le 11, 3) := by decide +kernel
theorem dX10_make_56 : decode cX10_make 56 = .ok (.aload_n 0, 1) := by decide +kernel
theorem dX10_make_57 : decode cX10_make 57 = .ok (.iload_n 1, 1) := by decide +kernel
theorem dX10_make_58 : decode cX10_make 58 = .ok (.iload_n 2, 1) := by decide +kernel
theorem dX10_make_59 : decode cX10_make 59 = .ok (.iload_n 3, 1) := by decide +kernel
theorem dX10_make_60 : decode cX10_make 60 = .ok (.invokevirtual 181, 3) := by decide +kernel
theorem dX10_make_63 : decode cX10_make 63 = .ok (.return_, 1) := by decide +kernel
theorem dX10_make_64 : decode cX10_make 64 = .ok (.aload_n 0, 1) := by decide +kernel
theorem dX10_make_65 : decode cX10_make 65 = .ok (.getfield 194, 3) := by decide +kernel
theorem dX10_make_68 : decode cX10_make 68 = .ok (.bipush 40, 2) := by decide +kernel
theorem dX10_make_70 : decode cX10_make 70 = .ok (.if_icmp .ne 9, 3) := by decide +kernel
theorem dX10_make_73 : decode cX10_make 73 = .ok (.aload_n 0, 1) := by decide +kernel
theorem dX10_make_74 : decode cX10_make 74 = .ok (.iconst 2, 1) := by decide +kernel
theorem dX10_make_75 : decode cX10_make 75 = .ok (.putfield 126, 3) := by decide +kernel
theorem dX10_make_78 : decode cX10_make 78 = .ok (.return_, 1) := by decide +kernel
theorem dX10_make_79 : decode cX10_make 79 = .ok (.aload_n 0, 1) := by decide +kernel
theorem dX10_make_80 : decode cX10_make 80 = .ok (.getfield 41, 3) := by decide +kernel
theorem dX10_make_83 : decode cX10_make 83 = .ok (.aload_n 0, 1) := by decide +kernel
theorem dX10_make_84 : decode cX10_make 84 = .ok (.getfield 194, 3) := by decide +kernel
theorem dX10_make_87 : decode cX10_make 87 = .ok (.aload_n 0, 1) := by decide +kernel
theorem dX10_make_88 : decode cX10_make 88 = .ok (.getfield 99, 3) := by decide +kernel
theorem dX10_make_91 : decode cX10_make 91 = .ok (.iconst 0, 1) := by decide +kernel
theorem dX10_make_92 : decode cX10_make 92 = .ok (.laload, 1) := by decide +kernel
theorem dX10_make_93 : decode cX10_make 93 = .ok (.l2i, 1) := by decide +kernel
theorem dX10_make_94 : decode cX10_make 94 = .ok (.iastore, 1) := by decide +kernel
theorem dX10_make_95 : decode cX10_make 95 = .ok (.iconst 0, 1) := by decide +kernel
theorem dX10_make_96 : decode cX10_make 96 = .ok (.istore 4, 2) := by decide +kernel
theorem dX10_make_98 : decode cX10_make 98 = .ok (.iload 4, 2) := by decide +kernel
theorem dX10_make_100 : decode cX10_make 100 = .ok (.bipush 8, 2) := by decide +kernel
theorem dX10_make_102 : decode cX10_make 102 = .ok (.if_icmp .ge 41, 3) := by decide +kernel
theorem dX10_make_105 : decode cX10_make 105 = .ok (.aload_n 0, 1) := by decide +kernel
theorem dX10_make_106 : decode cX10_make 106 = .ok (.getfield 44, 3) := by decide +kernel
theorem dX10_make_109 : decode cX10_make 109 = .ok (.bipush 8, 2) := by decide +kernel
theorem dX10_make_111 : decode cX10_make 111 = .ok (.aload_n 0, 1) := by decide +kernel
theorem dX10_make_112 : decode cX10_make 112 = .ok (.getfield 194, 3) := by decide +kernel
theorem dX10_make_115 : decode cX10_make 115 = .ok (.imul, 1) := by decide +kernel
theorem dX10_make_116 : decode cX10_make 116 = .ok (.iload 4, 2) := by decide +kernel
theorem dX10_make_118 : decode cX10_make 118 = .ok (.iadd, 1) := by decide +kernel
theorem dX10_make_119 : decode cX10_make 119 = .ok (.iconst 3, 1) := by decide +kernel
theorem dX10_make_120 : decode cX10_make 120 = .ok (.iastore, 1) := by decide +kernel
theorem dX10_make_121 : decode cX10_make 121 = .ok (.aload_n 0, 1) := by decide +kernel
theorem dX10_make_122 : decode cX10_make 122 = .ok (.getfield 47, 3) := by decide +kernel
theorem dX10_make_125 : decode cX10_make 125 = .ok (.bipush 8, 2) := by decide +kernel
theorem dX10_make_127 : decode cX10_make 127 = .ok (.aload_n 0, 1) := by decide +kernel
theorem dX10_make_128 : decode cX10_make 128 = .ok (.getfield 194, 3) := by decide +kernel
theorem dX10_make_131 : decode cX10_make 131 = .ok (.imul, 1) := by decide +kernel
theorem dX10_make_132 : decode cX10_make 132 = .ok (.iload 4, 2) := by decide +kernel
theorem dX10_make_134 : decode cX10_make 134 = .ok (.iadd, 1) := by decide +kernel
theorem dX10_make_135 : decode cX10_make 135 = .ok (.lconst 0, 1) := by decide +kernel
theorem dX10_make_136 : decode cX10_make 136 = .ok (.lastore, 1) := by decide +kernel
theorem dX10_make_137 : decode cX10_make 137 = .ok (.iinc 4 1, 3) := by decide +kernel
theorem dX10_make_140 : decode cX10_make 140 = .ok (.goto (-42), 3) := by decide +kernel
theorem dX10_make_143 : decode cX10_make 143 = .ok (.aload_n 0, 1) := by decide +kernel
theorem dX10_make_144 : decode cX10_make 144 = .ok (.dup, 1) := by decide +kernel
theorem dX10_make_145 : decode cX10_make 145 = .ok (.getfield 194, 3) := by decide +kernel
theorem dX10_make_148 : decode cX10_make 148 = .ok (.iconst 1, 1) := by decide +kernel
theorem dX10_make_149 : decode cX10_make 149 = .ok (.iadd, 1) := by decide +kernel
theorem dX10_make_150 : decode cX10_make 150 = .ok (.putfield 194, 3) := by decide +kernel
theorem dX10_make_153 : decode cX10_make 153 = .ok (.aload_n 0, 1) := by decide +kernel
theorem dX10_make_154 : decode cX10_make 154 = .ok (.iload_n 1, 1) := by decide +kernel
theorem dX10_make_155 : decode cX10_make 155 = .ok (.iconst 0, 1) := by decide +kernel
theorem dX10_make_156 : decode cX10_make 156 = .ok (.iload_n 2, 1) := by decide +kernel
theorem dX10_make_157 : decode cX10_make 157 = .ok (.iconst 2, 1) := by decide +kernel
theorem dX10_make_158 : decode cX10_make 158 = .ok (.aload_n 0, 1) := by decide +kernel
theorem dX10_make_159 : decode cX10_make 159 = .ok (.getfield 194, 3) := by decide +kernel
theorem dX10_make_162 : decode cX10_make 162 = .ok (.iconst 1, 1) := by decide +kernel
theorem dX10_make_163 : decode cX10_make 163 = .ok (.isub, 1) := by decide +kernel
theorem dX10_make_164 : decode cX10_make 164 = .ok (.i2l, 1) := by decide +kernel
theorem dX10_make_165 : decode cX10_make 165 = .ok (.invokevirtual 147, 3) := by decide +kernel
theorem dX10_make_168 : decode cX10_make 168 = .ok (.return_, 1) := by decide +kernel
theorem dX10_atCell_0 : decode cX10_atCell 0 = .ok (.aload_n 0, 1) := by decide +kernel
theorem dX10_atCell_1 : decode cX10_atCell 1 = .ok (.iconst 2, 1) := by decide +kernel
theorem dX10_atCell_2 : decode cX10_atCell 2 = .ok (.invokevirtual 178, 3) := by decide +kernel
theorem dX10_atCell_5 : decode cX10_atCell 5 = .ok (.istore_n 3, 1) := by decide +kernel
theorem dX10_atCell_6 : decode cX10_atCell 6 = .ok (.iload_n 3, 1) := by decide +kernel
theorem dX10_atCell_7 : decode cX10_atCell 7 = .ok (.ifCond .ne 24, 3) := by decide +kernel
theorem dX10_atCell_10 : decode cX10_atCell 10 = .ok (.aload_n 0, 1) := by decide +kernel
theorem dX10_atCell_11 : decode cX10_atCell 11 = .ok (.getfield 96, 3) := by decide +kernel
theorem dX10_atCell_14 : decode cX10_atCell 14 = .ok (.iconst 0, 1) := by decide +kernel
theorem dX10_atCell_15 : decode cX10_atCell 15 = .ok (.iaload, 1) := by decide +kernel
theorem dX10_atCell_16 : decode cX10_atCell 16 = .ok (.iconst 2, 1) := by decide +kernel
theorem dX10_atCell_17 : decode cX10_atCell 17 = .ok (.if_icmp .ne 12, 3) := by decide +kernel
theorem dX10_atCell_20 : decode cX10_atCell 20 = .ok (.aload_n 0, 1) := by decide +kernel
theorem dX10_atCell_21 : decode cX10_atCell 21 = .ok (.getfield 96, 3) := by decide +kernel
theorem dX10_atCell_24 : decode cX10_atCell 24 = .ok (.iconst 1, 1) := by decide +kernel
theorem dX10_atCell_25 : decode cX10_atCell 25 = .ok (.iaload, 1) := by decide +kernel
theorem dX10_atCell_26 : decode cX10_atCell 26 = .ok (.ifCond .eq 5, 3) := by decide +kernel
theorem dX10_atCell_29 : decode cX10_atCell 29 = .ok (.iconst 4, 1) := by decide +kernel
theorem dX10_atCell_30 : decode cX10_atCell 30 = .ok (.istore_n 3, 1) := by decide +kernel
theorem dX10_atCell_31 : decode cX10_atCell 31 = .ok (.iload_n 3, 1) := by decide +kernel
theorem dX10_atCell_32 : decode cX10_atCell 32 = .ok (.ifCond .ne 39, 3) := by decide +kernel
theorem dX10_atCell_35 : decode cX10_atCell 35 = .ok (.aload_n 0, 1) := by decide +kernel
theorem dX10_atCell_36 : decode cX10_atCell 36 = .ok (.getfield 99, 3) := by decide +kernel
theorem dX10_atCell_39 : decode cX10_atCell 39 = .ok (.iconst 1, 1) := by decide +kernel
theorem dX10_atCell_40 : decode cX10_atCell 40 = .ok (.laload, 1) := by decide +kernel
theorem dX10_atCell_41 : decode cX10_atCell 41 = .ok (.lconst 0, 1) := by decide +kernel
theorem dX10_atCell_42 : decode cX10_atCell 42 = .ok (.lcmp, 1) := by decide +kernel
theorem dX10_atCell_43 : decode cX10_atCell 43 = .ok (.ifCond .lt 26, 3) := by decide +kernel
theorem dX10_atCell_46 : decode cX10_atCell 46 = .ok (.aload_n 0, 1) := by decide +kernel
theorem dX10_atCell_47 : decode cX10_atCell 47 = .ok (.getfield 99, 3) := by decide +kernel
theorem dX10_atCell_50 : decode cX10_atCell 50 = .ok (.iconst 1, 1) := by decide +kernel
theorem dX10_atCell_51 : decode cX10_atCell 51 = .ok (.laload, 1) := by decide +kernel
theorem dX10_atCell_52 : decode cX10_atCell 52 = .ok (.aload_n 0, 1) := by decide +kernel
theorem dX10_atCell_53 : decode cX10_atCell 53 = .ok (.getfield 41, 3) := by decide +kernel
theorem dX10_atCell_56 : decode cX10_atCell 56 = .ok (.aload_n 0, 1) := by decide +kernel
theorem dX10_atCell_57 : decode cX10_atCell 57 = .ok (.getfield 99, 3) := by decide +kernel
theorem dX10_atCell_60 : decode cX10_atCell 60 = .ok (.iconst 0, 1) := by decide +kernel
theorem dX10_atCell_61 : decode cX10_atCell 61 = .ok (.laload, 1) := by decide +kernel
theorem dX10_atCell_62 : decode cX10_atCell 62 = .ok (.l2i, 1) := by decide +kernel
theorem dX10_atCell_63 : decode cX10_atCell 63 = .ok (.iaload, 1) := by decide +kernel
theorem dX10_atCell_64 : decode cX10_atCell 64 = .ok (.i2l, 1) := by decide +kernel
theorem dX10_atCell_65 : decode cX10_atCell 65 = .ok (.lcmp, 1) := by decide +kernel
theorem dX10_atCell_66 : decode cX10_atCell 66 = .ok (.ifCond .lt 5, 3) := by decide +kernel
theorem dX10_atCell_69 : decode cX10_atCell 69 = .ok (.iconst 3, 1) := by decide +kernel
theorem dX10_atCell_70 : decode cX10_atCell 70 = .ok (.istore_n 3, 1) := by decide +kernel
theorem dX10_atCell_71 : decode cX10_atCell 71 = .ok (.iload_n 3, 1) := by decide +kernel
theorem dX10_atCell_72 : decode cX10_atCell 72 = .ok (.ifCond .le 11, 3) := by decide +kernel
theorem dX10_atCell_75 : decode cX10_atCell 75 = .ok (.aload_n 0, 1) := by decide +kernel
theorem dX10_atCell_76 : decode cX10_atCell 76 = .ok (.iload_n 1, 1) := by decide +kernel
theorem dX10_atCell_77 : decode cX10_atCell 77 = .ok (.iload_n 2, 1) := by decide +kernel
theorem dX10_atCell_78 : decode cX10_atCell 78 = .ok (.iload_n 3, 1) := by decide +kernel
theorem dX10_atCell_79 : decode cX10_atCell 79 = .ok (.invokevirtual 181, 3) := by decide +kernel
theorem dX10_atCell_82 : decode cX10_atCell 82 = .ok (.return_, 1) := by decide +kernel
theorem dX10_atCell_83 : decode cX10_atCell 83 = .ok (.bipush 8, 2) := by decide +kernel
theorem dX10_atCell_85 : decode cX10_atCell 85 = .ok (.aload_n 0, 1) := by decide +kernel
theorem dX10_atCell_86 : decode cX10_atCell 86 = .ok (.getfield 99, 3) := by decide +kernel
theorem dX10_atCell_89 : decode cX10_atCell 89 = .ok (.iconst 0, 1) := by decide +kernel
theorem dX10_atCell_90 : decode cX10_atCell 90 = .ok (.laload, 1) := by decide +kernel
theorem dX10_atCell_91 : decode cX10_atCell 91 = .ok (.l2i, 1) := by decide +kernel
theorem dX10_atCell_92 : decode cX10_atCell 92 = .ok (.imul, 1) := by decide +kernel
theorem dX10_atCell_93 : decode cX10_atCell 93 = .ok (.aload_n 0, 1) := by decide +kernel
theorem dX10_atCell_94 : decode cX10_atCell 94 = .ok (.getfield 99, 3) := by decide +kernel
theorem dX10_atCell_97 : decode cX10_atCell 97 = .ok (.iconst 1, 1) := by decide +kernel
theorem dX10_atCell_98 : decode cX10_atCell 98 = .ok (.laload, 1) := by decide +kernel
theorem dX10_atCell_99 : decode cX10_atCell 99 = .ok (.l2i, 1) := by decide +kernel
theorem dX10_atCell_100 : decode cX10_atCell 100 = .ok (.iadd, 1) := by decide +kernel
theorem dX10_atCell_101 : decode cX10_atCell 101 = .ok (.istore 4, 2) := by decide +kernel
theorem dX10_atCell_103 : decode cX10_atCell 103 = .ok (.aload_n 0, 1) := by decide +kernel
theorem dX10_atCell_104 : decode cX10_atCell 104 = .ok (.getfield 7, 3) := by decide +kernel
theorem dX10_atCell_107 : decode cX10_atCell 107 = .ok (.iload_n 1, 1) := by decide +kernel
theorem dX10_atCell_108 : decode cX10_atCell 108 = .ok (.iaload, 1) := by decide +kernel
theorem dX10_atCell_109 : decode cX10_atCell 109 = .ok (.bipush 16, 2) := by decide +kernel
theorem dX10_atCell_111 : decode cX10_atCell 111 = .ok (.if_icmp .ne 14, 3) := by decide +kernel
theorem dX10_atCell_114 : decode cX10_atCell 114 = .ok (.aload_n 0, 1) := by decide +kernel
theorem dX10_atCell_115 : decode cX10_atCell 115 = .ok (.iload_n 1, 1) := by decide +kernel
theorem dX10_atCell_116 : decode cX10_atCell 116 = .ok (.iload_n 2, 1) := by decide +kernel
theorem dX10_atCell_117 : decode cX10_atCell 117 = .ok (.iload 4, 2) := by decide +kernel
theorem dX10_atCell_119 : decode cX10_atCell 119 = .ok (.invokevirtual 197, 3) := by decide +kernel
theorem dX10_atCell_122 : decode cX10_atCell 122 = .ok (.goto 79, 3) := by decide +kernel
theorem dX10_atCell_125 : decode cX10_atCell 125 = .ok (.aload_n 0, 1) := by decide +kernel
theorem dX10_atCell_126 : decode cX10_atCell 126 = .ok (.getfield 44, 3) := by decide +kernel
theorem dX10_atCell_129 : decode cX10_atCell 129 = .ok (.iload 4, 2) := by decide +kernel
theorem dX10_atCell_131 : decode cX10_atCell 131 = .ok (.iaload, 1) := by decide +kernel
theorem dX10_atCell_132 : decode cX10_atCell 132 = .ok (.iconst 3, 1) := by decide +kernel
theorem dX10_atCell_133 : decode cX10_atCell 133 = .ok (.if_icmp .eq 27, 3) := by decide +kernel
theorem dX10_atCell_136 : decode cX10_atCell 136 = .ok (.aload_n 0, 1) := by decide +kernel
theorem dX10_atCell_137 : decode cX10_atCell 137 = .ok (.iload_n 1, 1) := by decide +kernel
theorem dX10_atCell_138 : decode cX10_atCell 138 = .ok (.iconst 0, 1) := by decide +kernel
theorem dX10_atCell_139 : decode cX10_atCell 139 = .ok (.iload_n 2, 1) := by decide +kernel
theorem dX10_atCell_140 : decode cX10_atCell 140 = .ok (.aload_n 0, 1) := by decide +kernel
theorem dX10_atCell_141 : decode cX10_atCell 141 = .ok (.getfield 44, 3) := by decide +kernel
theorem dX10_atCell_144 : decode cX10_atCell 144 = .ok (.iload 4, 2) := by decide +kernel
theorem dX10_atCell_146 : decode cX10_atCell 146 = .ok (.iaload, 1) := by decide +kernel
theorem dX10_atCell_147 : decode cX10_atCell 147 = .ok (.aload_n 0, 1) := by decide +kernel
theorem dX10_atCell_148 : decode cX10_atCell 148 = .ok (.getfield 47, 3) := by decide +kernel
theorem dX10_atCell_151 : decode cX10_atCell 151 = .ok (.iload 4, 2) := by decide +kernel
theorem dX10_atCell_153 : decode cX10_atCell 153 = .ok (.laload, 1) := by decide +kernel
theorem dX10_atCell_154 : decode cX10_atCell 154 = .ok (.invokevirtual 147, 3) := by decide +kernel
theorem dX10_atCell_157 : decode cX10_atCell 157 = .ok (.goto 44, 3) := by decide +kernel
theorem dX10_atCell_160 : decode cX10_atCell 160 = .ok (.aload_n 0, 1) := by decide +kernel
theorem dX10_atCell_161 : decode cX10_atCell 161 = .ok (.getfield 78, 3) := by decide +kernel
theorem dX10_atCell_164 : decode cX10_atCell 164 = .ok (.aload_n 0, 1) := by decide +kernel
theorem dX10_atCell_165 : decode cX10_atCell 165 = .ok (.getfield 136, 3) := by decide +kernel
theorem dX10_atCell_168 : decode cX10_atCell 168 = .ok (.iload_n 1, 1) := by decide +kernel
theorem dX10_atCell_169 : decode cX10_atCell 169 = .ok (.iastore, 1) := by decide +kernel
theorem dX10_atCell_170 : decode cX10_atCell 170 = .ok (.aload_n 0, 1) := by decide +kernel
theorem dX10_atCell_171 : decode cX10_atCell 171 = .ok (.getfield 81, 3) := by decide +kernel
theorem dX10_atCell_174 : decode cX10_atCell 174 = .ok (.aload_n 0, 1) := by decide +kernel
theorem dX10_atCell_175 : decode cX10_atCell 175 = .ok (.getfield 136, 3) := by decide +kernel
theorem dX10_atCell_178 : decode cX10_atCell 178 = .ok (.iload_n 2, 1) := by decide +kernel
theorem dX10_atCell_179 : decode cX10_atCell 179 = .ok (.iastore, 1) := by decide +kernel
theorem dX10_atCell_180 : decode cX10_atCell 180 = .ok (.aload_n 0, 1) := by decide +kernel
theorem dX10_atCell_181 : decode cX10_atCell 181 = .ok (.getfield 84, 3) := by decide +kernel
theorem dX10_atCell_184 : decode cX10_atCell 184 = .ok (.aload_n 0, 1) := by decide +kernel
theorem dX10_atCell_185 : decode cX10_atCell 185 = .ok (.getfield 136, 3) := by decide +kernel
theorem dX10_atCell_188 : decode cX10_atCell 188 = .ok (.iload 4, 2) := by decide +kernel
theorem dX10_atCell_190 : decode cX10_atCell 190 = .ok (.iastore, 1) := by decide +kernel
theorem dX10_atCell_191 : decode cX10_atCell 191 = .ok (.aload_n 0, 1) := by decide +kernel
theorem dX10_atCell_192 : decode cX10_atCell 192 = .ok (.dup, 1) := by decide +kernel
theorem dX10_atCell_193 : decode cX10_atCell 193 = .ok (.getfield 136, 3) := by decide +kernel
theorem dX10_atCell_196 : decode cX10_atCell 196 = .ok (.iconst 1, 1) := by decide +kernel
theorem dX10_atCell_197 : decode cX10_atCell 197 = .ok (.iadd, 1) := by decide +kernel
theorem dX10_atCell_198 : decode cX10_atCell 198 = .ok (.putfield 136, 3) := by decide +kernel
theorem dX10_atCell_201 : decode cX10_atCell 201 = .ok (.return_, 1) := by decide +kernel
theorem dX10_store_0 : decode cX10_store 0 = .ok (.aload_n 0, 1) := by decide +kernel
theorem dX10_store_1 : decode cX10_store 1 = .ok (.getfield 44, 3) := by decide +kernel
theorem dX10_store_4 : decode cX10_store 4 = .ok (.iload_n 3, 1) := by decide +kernel
theorem dX10_store_5 : decode cX10_store 5 = .ok (.iaload, 1) := by decide +kernel
theorem dX10_store_6 : decode cX10_store 6 = .ok (.iconst 3, 1) := by decide +kernel
theorem dX10_store_7 : decode cX10_store 7 = .ok (.if_icmp .eq 9, 3) := by decide +kernel
theorem dX10_store_10 : decode cX10_store 10 = .ok (.aload_n 0, 1) := by decide +kernel
theorem dX10_store_11 : decode cX10_store 11 = .ok (.iconst 3, 1) := by decide +kernel
theorem dX10_store_12 : decode cX10_store 12 = .ok (.putfield 126, 3) := by decide +kernel
theorem dX10_store_15 : decode cX10_store 15 = .ok (.return_, 1) := by decide +kernel
theorem dX10_store_16 : decode cX10_store 16 = .ok (.aload_n 0, 1) := by decide +kernel
theorem dX10_store_17 : decode cX10_store 17 = .ok (.getfield 44, 3) := by decide +kernel
theorem dX10_store_20 : decode cX10_store 20 = .ok (.iload_n 3, 1) := by decide +kernel
theorem dX10_store_21 : decode cX10_store 21 = .ok (.aload_n 0, 1) := by decide +kernel
theorem dX10_store_22 : decode cX10_store 22 = .ok (.getfield 96, 3) := by decide +kernel
theorem dX10_store_25 : decode cX10_store 25 = .ok (.iconst 2, 1) := by decide +kernel
theorem dX10_store_26 : decode cX10_store 26 = .ok (.iaload, 1) := by decide +kernel
theorem dX10_store_27 : decode cX10_store 27 = .ok (.iastore, 1) := by decide +kernel
theorem dX10_store_28 : decode cX10_store 28 = .ok (.aload_n 0, 1) := by decide +kernel
theorem dX10_store_29 : decode cX10_store 29 = .ok (.getfield 47, 3) := by decide +kernel
theorem dX10_store_32 : decode cX10_store 32 = .ok (.iload_n 3, 1) := by decide +kernel
theorem dX10_store_33 : decode cX10_store 33 = .ok (.aload_n 0, 1) := by decide +kernel
theorem dX10_store_34 : decode cX10_store 34 = .ok (.getfield 99, 3) := by decide +kernel
theorem dX10_store_37 : decode cX10_store 37 = .ok (.iconst 2, 1) := by decide +kernel
theorem dX10_store_38 : decode cX10_store 38 = .ok (.laload, 1) := by decide +kernel
theorem dX10_store_39 : decode cX10_store 39 = .ok (.lastore, 1) := by decide +kernel
theorem dX10_store_40 : decode cX10_store 40 = .ok (.aload_n 0, 1) := by decide +kernel
theorem dX10_store_41 : decode cX10_store 41 = .ok (.iload_n 1, 1) := by decide +kernel
theorem dX10_store_42 : decode cX10_store 42 = .ok (.iconst 0, 1) := by decide +kernel
theorem dX10_store_43 : decode cX10_store 43 = .ok (.iload_n 2, 1) := by decide +kernel
theorem dX10_store_44 : decode cX10_store 44 = .ok (.aload_n 0, 1) := by decide +kernel
theorem dX10_store_45 : decode cX10_store 45 = .ok (.getfield 44, 3) := by decide +kernel
theorem dX10_store_48 : decode cX10_store 48 = .ok (.iload_n 3, 1) := by decide +kernel
theorem dX10_store_49 : decode cX10_store 49 = .ok (.iaload, 1) := by decide +kernel
theorem dX10_store_50 : decode cX10_store 50 = .ok (.aload_n 0, 1) := by decide +kernel
theorem dX10_store_51 : decode cX10_store 51 = .ok (.getfield 47, 3) := by decide +kernel
theorem dX10_store_54 : decode cX10_store 54 = .ok (.iload_n 3, 1) := by decide +kernel
theorem dX10_store_55 : decode cX10_store 55 = .ok (.laload, 1) := by decide +kernel
theorem dX10_store_56 : decode cX10_store 56 = .ok (.invokevirtual 147, 3) := by decide +kernel
theorem dX10_store_59 : decode cX10_store 59 = .ok (.iconst 0, 1) := by decide +kernel
theorem dX10_store_60 : decode cX10_store 60 = .ok (.istore 4, 2) := by decide +kernel
theorem dX10_store_62 : decode cX10_store 62 = .ok (.iload 4, 2) := by decide +kernel
theorem dX10_store_64 : decode cX10_store 64 = .ok (.aload_n 0, 1) := by decide +kernel
theorem dX10_store_65 : decode cX10_store 65 = .ok (.getfield 136, 3) := by decide +kernel
theorem dX10_store_68 : decode cX10_store 68 = .ok (.if_icmp .ge 36, 3) := by decide +kernel
theorem dX10_store_71 : decode cX10_store 71 = .ok (.aload_n 0, 1) := by decide +kernel
theorem dX10_store_72 : decode cX10_store 72 = .ok (.getfield 126, 3) := by decide +kernel
theorem dX10_store_75 : decode cX10_store 75 = .ok (.ifCond .ne 29, 3) := by decide +kernel
theorem dX10_store_78 : decode cX10_store 78 = .ok (.aload_n 0, 1) := by decide +kernel
theorem dX10_store_79 : decode cX10_store 79 = .ok (.getfield 84, 3) := by decide +kernel
theorem dX10_store_82 : decode cX10_store 82 = .ok (.iload 4, 2) := by decide +kernel
theorem dX10_store_84 : decode cX10_store 84 = .ok (.iaload, 1) := by decide +kernel
theorem dX10_store_85 : decode cX10_store 85 = .ok (.iload_n 3, 1) := by decide +kernel
theorem dX10_store_86 : decode cX10_store 86 = .ok (.if_icmp .ne 12, 3) := by decide +kernel
theorem dX10_store_89 : decode cX10_store 89 = .ok (.aload_n 0, 1) := by decide +kernel
theorem dX10_store_90 : decode cX10_store 90 = .ok (.iload 4, 2) := by decide +kernel
theorem dX10_store_92 : decode cX10_store 92 = .ok (.invokevirtual 200, 3) := by decide +kernel
theorem dX10_store_95 : decode cX10_store 95 = .ok (.goto (-33), 3) := by decide +kernel
theorem dX10_store_98 : decode cX10_store 98 = .ok (.iinc 4 1, 3) := by decide +kernel
theorem dX10_store_101 : decode cX10_store 101 = .ok (.goto (-39), 3) := by decide +kernel
theorem dX10_store_104 : decode cX10_store 104 = .ok (.return_, 1) := by decide +kernel
theorem dX10_serve_0 : decode cX10_serve 0 = .ok (.aload_n 0, 1) := by decide +kernel
theorem dX10_serve_1 : decode cX10_serve 1 = .ok (.getfield 78, 3) := by decide +kernel
theorem dX10_serve_4 : decode cX10_serve 4 = .ok (.iload_n 1, 1) := by decide +kernel
theorem dX10_serve_5 : decode cX10_serve 5 = .ok (.iaload, 1) := by decide +kernel
theorem dX10_serve_6 : decode cX10_serve 6 = .ok (.istore_n 2, 1) := by decide +kernel
theorem dX10_serve_7 : decode cX10_serve 7 = .ok (.aload_n 0, 1) := by decide +kernel
theorem dX10_serve_8 : decode cX10_serve 8 = .ok (.getfield 81, 3) := by decide +kernel
theorem dX10_serve_11 : decode cX10_serve 11 = .ok (.iload_n 1, 1) := by decide +kernel
theorem dX10_serve_12 : decode cX10_serve 12 = .ok (.iaload, 1) := by decide +kernel
theorem dX10_serve_13 : decode cX10_serve 13 = .ok (.istore_n 3, 1) := by decide +kernel
theorem dX10_serve_14 : decode cX10_serve 14 = .ok (.aload_n 0, 1) := by decide +kernel
theorem dX10_serve_15 : decode cX10_serve 15 = .ok (.getfield 84, 3) := by decide +kernel
theorem dX10_serve_18 : decode cX10_serve 18 = .ok (.iload_n 1, 1) := by decide +kernel
theorem dX10_serve_19 : decode cX10_serve 19 = .ok (.iaload, 1) := by decide +kernel
theorem dX10_serve_20 : decode cX10_serve 20 = .ok (.istore 4, 2) := by decide +kernel
theorem dX10_serve_22 : decode cX10_serve 22 = .ok (.aload_n 0, 1) := by decide +kernel
theorem dX10_serve_23 : decode cX10_serve 23 = .ok (.dup, 1) := by decide +kernel
theorem dX10_serve_24 : decode cX10_serve 24 = .ok (.getfield 136, 3) := by decide +kernel
theorem dX10_serve_27 : decode cX10_serve 27 = .ok (.iconst 1, 1) := by decide +kernel
theorem dX10_serve_28 : decode cX10_serve 28 = .ok (.isub, 1) := by decide +kernel
theorem dX10_serve_29 : decode cX10_serve 29 = .ok (.putfield 136, 3) := by decide +kernel
theorem dX10_serve_32 : decode cX10_serve 32 = .ok (.iload_n 1, 1) := by decide +kernel
theorem dX10_serve_33 : decode cX10_serve 33 = .ok (.istore 5, 2) := by decide +kernel
theorem dX10_serve_35 : decode cX10_serve 35 = .ok (.iload 5, 2) := by decide +kernel
theorem dX10_serve_37 : decode cX10_serve 37 = .ok (.aload_n 0, 1) := by decide +kernel
theorem dX10_serve_38 : decode cX10_serve 38 = .ok (.getfield 136, 3) := by decide +kernel
theorem dX10_serve_41 : decode cX10_serve 41 = .ok (.if_icmp .ge 57, 3) := by decide +kernel
theorem dX10_serve_44 : decode cX10_serve 44 = .ok (.aload_n 0, 1) := by decide +kernel
theorem dX10_serve_45 : decode cX10_serve 45 = .ok (.getfield 78, 3) := by decide +kernel
theorem dX10_serve_48 : decode cX10_serve 48 = .ok (.iload 5, 2) := by decide +kernel
theorem dX10_serve_50 : decode cX10_serve 50 = .ok (.aload_n 0, 1) := by decide +kernel
theorem dX10_serve_51 : decode cX10_serve 51 = .ok (.getfield 78, 3) := by decide +kernel
theorem dX10_serve_54 : decode cX10_serve 54 = .ok (.iload 5, 2) := by decide +kernel
theorem dX10_serve_56 : decode cX10_serve 56 = .ok (.iconst 1, 1) := by decide +kernel
theorem dX10_serve_57 : decode cX10_serve 57 = .ok (.iadd, 1) := by decide +kernel
theorem dX10_serve_58 : decode cX10_serve 58 = .ok (.iaload, 1) := by decide +kernel
theorem dX10_serve_59 : decode cX10_serve 59 = .ok (.iastore, 1) := by decide +kernel
theorem dX10_serve_60 : decode cX10_serve 60 = .ok (.aload_n 0, 1) := by decide +kernel
theorem dX10_serve_61 : decode cX10_serve 61 = .ok (.getfield 81, 3) := by decide +kernel
theorem dX10_serve_64 : decode cX10_serve 64 = .ok (.iload 5, 2) := by decide +kernel
theorem dX10_serve_66 : decode cX10_serve 66 = .ok (.aload_n 0, 1) := by decide +kernel
theorem dX10_serve_67 : decode cX10_serve 67 = .ok (.getfield 81, 3) := by decide +kernel
theorem dX10_serve_70 : decode cX10_serve 70 = .ok (.iload 5, 2) := by decide +kernel
theorem dX10_serve_72 : decode cX10_serve 72 = .ok (.iconst 1, 1) := by decide +kernel
theorem dX10_serve_73 : decode cX10_serve 73 = .ok (.iadd, 1) := by decide +kernel
theorem dX10_serve_74 : decode cX10_serve 74 = .ok (.iaload, 1) := by decide +kernel
theorem dX10_serve_75 : decode cX10_serve 75 = .ok (.iastore, 1) := by decide +kernel
theorem dX10_serve_76 : decode cX10_serve 76 = .ok (.aload_n 0, 1) := by decide +kernel
theorem dX10_serve_77 : decode cX10_serve 77 = .ok (.getfield 84, 3) := by decide +kernel
theorem dX10_serve_80 : decode cX10_serve 80 = .ok (.iload 5, 2) := by decide +kernel
theorem dX10_serve_82 : decode cX10_serve 82 = .ok (.aload_n 0, 1) := by decide +kernel
theorem dX10_serve_83 : decode cX10_serve 83 = .ok (.getfield 84, 3) := by decide +kernel
theorem dX10_serve_86 : decode cX10_serve 86 = .ok (.iload 5, 2) := by decide +kernel
theorem dX10_serve_88 : decode cX10_serve 88 = .ok (.iconst 1, 1) := by decide +kernel
theorem dX10_serve_89 : decode cX10_serve 89 = .ok (.iadd, 1) := by decide +kernel
theorem dX10_serve_90 : decode cX10_serve 90 = .ok (.iaload, 1) := by decide +kernel
theorem dX10_serve_91 : decode cX10_serve 91 = .ok (.iastore, 1) := by decide +kernel
theorem dX10_serve_92 : decode cX10_serve 92 = .ok (.iinc 5 1, 3) := by decide +kernel
theorem dX10_serve_95 : decode cX10_serve 95 = .ok (.goto (-60), 3) := by decide +kernel
theorem dX10_serve_98 : decode cX10_serve 98 = .ok (.aload_n 0, 1) := by decide +kernel
theorem dX10_serve_99 : decode cX10_serve 99 = .ok (.iload_n 2, 1) := by decide +kernel
theorem dX10_serve_100 : decode cX10_serve 100 = .ok (.iconst 0, 1) := by decide +kernel
theorem dX10_serve_101 : decode cX10_serve 101 = .ok (.iload_n 3, 1) := by decide +kernel
theorem dX10_serve_102 : decode cX10_serve 102 = .ok (.aload_n 0, 1) := by decide +kernel
theorem dX10_serve_103 : decode cX10_serve 103 = .ok (.getfield 44, 3) := by decide +kernel
theorem dX10_serve_106 : decode cX10_serve 106 = .ok (.iload 4, 2) := by decide +kernel
theorem dX10_serve_108 : decode cX10_serve 108 = .ok (.iaload, 1) := by decide +kernel
theorem dX10_serve_109 : decode cX10_serve 109 = .ok (.aload_n 0, 1) := by decide +kernel
theorem dX10_serve_110 : decode cX10_serve 110 = .ok (.getfield 47, 3) := by decide +kernel
theorem dX10_serve_113 : decode cX10_serve 113 = .ok (.iload 4, 2) := by decide +kernel
theorem dX10_serve_115 : decode cX10_serve 115 = .ok (.laload, 1) := by decide +kernel
theorem dX10_serve_116 : decode cX10_serve 116 = .ok (.invokevirtual 147, 3) := by decide +kernel
theorem dX10_serve_119 : decode cX10_serve 119 = .ok (.return_, 1) := by decide +kernel
theorem dX10_run_0 : decode cX10_run 0 = .ok (.iload_n 1, 1) := by decide +kernel
theorem dX10_run_1 : decode cX10_run 1 = .ok (.iconst 1, 1) := by decide +kernel
theorem dX10_run_2 : decode cX10_run 2 = .ok (.if_icmp .lt 10, 3) := by decide +kernel
theorem dX10_run_5 : decode cX10_run 5 = .ok (.iload_n 1, 1) := by decide +kernel
theorem dX10_run_6 : decode cX10_run 6 = .ok (.sipush 500, 3) := by decide +kernel
theorem dX10_run_9 : decode cX10_run 9 = .ok (.if_icmp .le 9, 3) := by decide +kernel
theorem dX10_run_12 : decode cX10_run 12 = .ok (.aload_n 0, 1) := by decide +kernel
theorem dX10_run_13 : decode cX10_run 13 = .ok (.iconst 1, 1) := by decide +kernel
theorem dX10_run_14 : decode cX10_run 14 = .ok (.invokevirtual 108, 3) := by decide +kernel
theorem dX10_run_17 : decode cX10_run 17 = .ok (.ireturn, 1) := by decide +kernel
theorem dX10_run_18 : decode cX10_run 18 = .ok (.aload_n 0, 1) := by decide +kernel
theorem dX10_run_19 : decode cX10_run 19 = .ok (.getfield 203, 3) := by decide +kernel
theorem dX10_run_22 : decode cX10_run 22 = .ok (.sipush 5000, 3) := by decide +kernel
theorem dX10_run_25 : decode cX10_run 25 = .ok (.if_icmp .ne 9, 3) := by decide +kernel
theorem dX10_run_28 : decode cX10_run 28 = .ok (.aload_n 0, 1) := by decide +kernel
theorem dX10_run_29 : decode cX10_run 29 = .ok (.iconst 2, 1) := by decide +kernel
theorem dX10_run_30 : decode cX10_run 30 = .ok (.invokevirtual 108, 3) := by decide +kernel
theorem dX10_run_33 : decode cX10_run 33 = .ok (.ireturn, 1) := by decide +kernel
theorem dX10_run_34 : decode cX10_run 34 = .ok (.aload_n 0, 1) := by decide +kernel
theorem dX10_run_35 : decode cX10_run 35 = .ok (.iconst 0, 1) := by decide +kernel
theorem dX10_run_36 : decode cX10_run 36 = .ok (.putfield 102, 3) := by decide +kernel
theorem dX10_run_39 : decode cX10_run 39 = .ok (.lload_n 2, 1) := by decide +kernel
theorem dX10_run_40 : decode cX10_run 40 = .ok (.lstore 4, 2) := by decide +kernel
theorem dX10_run_42 : decode cX10_run 42 = .ok (.iconst 0, 1) := by decide +kernel
theorem dX10_run_43 : decode cX10_run 43 = .ok (.istore 6, 2) := by decide +kernel
theorem dX10_run_45 : decode cX10_run 45 = .ok (.iload 6, 2) := by decide +kernel
theorem dX10_run_47 : decode cX10_run 47 = .ok (.iload_n 1, 1) := by decide +kernel
theorem dX10_run_48 : decode cX10_run 48 = .ok (.if_icmp .ge 84, 3) := by decide +kernel
theorem dX10_run_51 : decode cX10_run 51 = .ok (.aload_n 0, 1) := by decide +kernel
theorem dX10_run_52 : decode cX10_run 52 = .ok (.getfield 133, 3) := by decide +kernel
theorem dX10_run_55 : decode cX10_run 55 = .ok (.ifCond .le 77, 3) := by decide +kernel
theorem dX10_run_58 : decode cX10_run 58 = .ok (.aload_n 0, 1) := by decide +kernel
theorem dX10_run_59 : decode cX10_run 59 = .ok (.getfield 126, 3) := by decide +kernel
theorem dX10_run_62 : decode cX10_run 62 = .ok (.ifCond .ne 70, 3) := by decide +kernel
theorem dX10_run_65 : decode cX10_run 65 = .ok (.aload_n 0, 1) := by decide +kernel
theorem dX10_run_66 : decode cX10_run 66 = .ok (.getfield 203, 3) := by decide +kernel
theorem dX10_run_69 : decode cX10_run 69 = .ok (.sipush 5000, 3) := by decide +kernel
theorem dX10_run_72 : decode cX10_run 72 = .ok (.if_icmp .ge 60, 3) := by decide +kernel
theorem dX10_run_75 : decode cX10_run 75 = .ok (.lload 4, 2) := by decide +kernel
theorem dX10_run_77 : decode cX10_run 77 = .ok (.iconst 1, 1) := by decide +kernel
theorem dX10_run_78 : decode cX10_run 78 = .ok (.lushr, 1) := by decide +kernel
theorem dX10_run_79 : decode cX10_run 79 = .ok (.aload_n 0, 1) := by decide +kernel
theorem dX10_run_80 : decode cX10_run 80 = .ok (.getfield 133, 3) := by decide +kernel
theorem dX10_run_83 : decode cX10_run 83 = .ok (.i2l, 1) := by decide +kernel
theorem dX10_run_84 : decode cX10_run 84 = .ok (.lrem, 1) := by decide +kernel
theorem dX10_run_85 : decode cX10_run 85 = .ok (.l2i, 1) := by decide +kernel
theorem dX10_run_86 : decode cX10_run 86 = .ok (.istore 7, 2) := by decide +kernel
theorem dX10_run_88 : decode cX10_run 88 = .ok (.lload 4, 2) := by decide +kernel
theorem dX10_run_90 : decode cX10_run 90 = .ok (.ldc2_w 206, 3) := by decide +kernel
theorem dX10_run_93 : decode cX10_run 93 = .ok (.lmul, 1) := by decide +kernel
theorem dX10_run_94 : decode cX10_run 94 = .ok (.ldc2_w 208, 3) := by decide +kernel
theorem dX10_run_97 : decode cX10_run 97 = .ok (.ladd, 1) := by decide +kernel
theorem dX10_run_98 : decode cX10_run 98 = .ok (.lstore 4, 2) := by decide +kernel
theorem dX10_run_100 : decode cX10_run 100 = .ok (.iinc 6 1, 3) := by decide +kernel
theorem dX10_run_103 : decode cX10_run 103 = .ok (.aload_n 0, 1) := by decide +kernel
theorem dX10_run_104 : decode cX10_run 104 = .ok (.dup, 1) := by decide +kernel
theorem dX10_run_105 : decode cX10_run 105 = .ok (.getfield 210, 3) := by decide +kernel
theorem dX10_run_108 : decode cX10_run 108 = .ok (.iconst 1, 1) := by decide +kernel
theorem dX10_run_109 : decode cX10_run 109 = .ok (.iadd, 1) := by decide +kernel
theorem dX10_run_110 : decode cX10_run 110 = .ok (.putfield 210, 3) := by decide +kernel
theorem dX10_run_113 : decode cX10_run 113 = .ok (.aload_n 0, 1) := by decide +kernel
theorem dX10_run_114 : decode cX10_run 114 = .ok (.dup, 1) := by decide +kernel
theorem dX10_run_115 : decode cX10_run 115 = .ok (.getfield 203, 3) := by decide +kernel
theorem dX10_run_118 : decode cX10_run 118 = .ok (.iconst 1, 1) := by decide +kernel
theorem dX10_run_119 : decode cX10_run 119 = .ok (.iadd, 1) := by decide +kernel
theorem dX10_run_120 : decode cX10_run 120 = .ok (.putfield 203, 3) := by decide +kernel
theorem dX10_run_123 : decode cX10_run 123 = .ok (.aload_n 0, 1) := by decide +kernel
theorem dX10_run_124 : decode cX10_run 124 = .ok (.iload 7, 2) := by decide +kernel
theorem dX10_run_126 : decode cX10_run 126 = .ok (.invokevirtual 213, 3) := by decide +kernel
theorem dX10_run_129 : decode cX10_run 129 = .ok (.goto (-84), 3) := by decide +kernel
theorem dX10_run_132 : decode cX10_run 132 = .ok (.iload 6, 2) := by decide +kernel
theorem dX10_run_134 : decode cX10_run 134 = .ok (.ireturn, 1) := by decide +kernel
theorem dX10_clear_0 : decode cX10_clear 0 = .ok (.aload_n 0, 1) := by decide +kernel
theorem dX10_clear_1 : decode cX10_clear 1 = .ok (.iconst 0, 1) := by decide +kernel
theorem dX10_clear_2 : decode cX10_clear 2 = .ok (.putfield 102, 3) := by decide +kernel
theorem dX10_clear_5 : decode cX10_clear 5 = .ok (.aload_n 0, 1) := by decide +kernel
theorem dX10_clear_6 : decode cX10_clear 6 = .ok (.iconst 0, 1) := by decide +kernel
theorem dX10_clear_7 : decode cX10_clear 7 = .ok (.putfield 123, 3) := by decide +kernel
theorem dX10_clear_10 : decode cX10_clear 10 = .ok (.aload_n 0, 1) := by decide +kernel
theorem dX10_clear_11 : decode cX10_clear 11 = .ok (.iconst 0, 1) := by decide +kernel
theorem dX10_clear_12 : decode cX10_clear 12 = .ok (.putfield 133, 3) := by decide +kernel
theorem dX10_clear_15 : decode cX10_clear 15 = .ok (.aload_n 0, 1) := by decide +kernel
theorem dX10_clear_16 : decode cX10_clear 16 = .ok (.iconst 0, 1) := by decide +kernel
theorem dX10_clear_17 : decode cX10_clear 17 = .ok (.putfield 136, 3) := by decide +kernel
theorem dX10_clear_20 : decode cX10_clear 20 = .ok (.aload_n 0, 1) := by decide +kernel
theorem dX10_clear_21 : decode cX10_clear 21 = .ok (.iconst 1, 1) := by decide +kernel
theorem dX10_clear_22 : decode cX10_clear 22 = .ok (.putfield 28, 3) := by decide +kernel
theorem dX10_clear_25 : decode cX10_clear 25 = .ok (.aload_n 0, 1) := by decide +kernel
theorem dX10_clear_26 : decode cX10_clear 26 = .ok (.iconst 0, 1) := by decide +kernel
theorem dX10_clear_27 : decode cX10_clear 27 = .ok (.putfield 194, 3) := by decide +kernel
theorem dX10_clear_30 : decode cX10_clear 30 = .ok (.aload_n 0, 1) := by decide +kernel
theorem dX10_clear_31 : decode cX10_clear 31 = .ok (.iconst 0, 1) := by decide +kernel
theorem dX10_clear_32 : decode cX10_clear 32 = .ok (.putfield 175, 3) := by decide +kernel
theorem dX10_clear_35 : decode cX10_clear 35 = .ok (.aload_n 0, 1) := by decide +kernel
theorem dX10_clear_36 : decode cX10_clear 36 = .ok (.iconst 0, 1) := by decide +kernel
theorem dX10_clear_37 : decode cX10_clear 37 = .ok (.putfield 126, 3) := by decide +kernel
theorem dX10_clear_40 : decode cX10_clear 40 = .ok (.aload_n 0, 1) := by decide +kernel
theorem dX10_clear_41 : decode cX10_clear 41 = .ok (.iconst 0, 1) := by decide +kernel
theorem dX10_clear_42 : decode cX10_clear 42 = .ok (.putfield 210, 3) := by decide +kernel
theorem dX10_clear_45 : decode cX10_clear 45 = .ok (.aload_n 0, 1) := by decide +kernel
theorem dX10_clear_46 : decode cX10_clear 46 = .ok (.iconst 0, 1) := by decide +kernel
theorem dX10_clear_47 : decode cX10_clear 47 = .ok (.putfield 112, 3) := by decide +kernel
theorem dX10_clear_50 : decode cX10_clear 50 = .ok (.iload_n 1, 1) := by decide +kernel
theorem dX10_clear_51 : decode cX10_clear 51 = .ok (.ifCond .eq 8, 3) := by decide +kernel
theorem dX10_clear_54 : decode cX10_clear 54 = .ok (.aload_n 0, 1) := by decide +kernel
theorem dX10_clear_55 : decode cX10_clear 55 = .ok (.iconst 0, 1) := by decide +kernel
theorem dX10_clear_56 : decode cX10_clear 56 = .ok (.putfield 105, 3) := by decide +kernel
theorem dX10_clear_59 : decode cX10_clear 59 = .ok (.return_, 1) := by decide +kernel
theorem dX10_ready_0 : decode cX10_ready 0 = .ok (.aload_n 0, 1) := by decide +kernel
theorem dX10_ready_1 : decode cX10_ready 1 = .ok (.iconst 0, 1) := by decide +kernel
theorem dX10_ready_2 : decode cX10_ready 2 = .ok (.putfield 102, 3) := by decide +kernel
theorem dX10_ready_5 : decode cX10_ready 5 = .ok (.iload_n 1, 1) := by decide +kernel
theorem dX10_ready_6 : decode cX10_ready 6 = .ok (.ifCond .lt 11, 3) := by decide +kernel
theorem dX10_ready_9 : decode cX10_ready 9 = .ok (.iload_n 1, 1) := by decide +kernel
theorem dX10_ready_10 : decode cX10_ready 10 = .ok (.aload_n 0, 1) := by decide +kernel
theorem dX10_ready_11 : decode cX10_ready 11 = .ok (.getfield 133, 3) := by decide +kernel
theorem dX10_ready_14 : decode cX10_ready 14 = .ok (.if_icmp .lt 5, 3) := by decide +kernel
theorem dX10_ready_17 : decode cX10_ready 17 = .ok (.iconst (-1), 1) := by decide +kernel
theorem dX10_ready_18 : decode cX10_ready 18 = .ok (.ireturn, 1) := by decide +kernel
theorem dX10_ready_19 : decode cX10_ready 19 = .ok (.iload_n 2, 1) := by decide +kernel
theorem dX10_ready_20 : decode cX10_ready 20 = .ok (.ifCond .ne 12, 3) := by decide +kernel
theorem dX10_ready_23 : decode cX10_ready 23 = .ok (.aload_n 0, 1) := by decide +kernel
theorem dX10_ready_24 : decode cX10_ready 24 = .ok (.getfield 66, 3) := by decide +kernel
theorem dX10_ready_27 : decode cX10_ready 27 = .ok (.iload_n 1, 1) := by decide +kernel
theorem dX10_ready_28 : decode cX10_ready 28 = .ok (.iaload, 1) := by decide +kernel
theorem dX10_ready_29 : decode cX10_ready 29 = .ok (.goto 18, 3) := by decide +kernel
theorem dX10_ready_32 : decode cX10_ready 32 = .ok (.iload_n 2, 1) := by decide +kernel
theorem dX10_ready_33 : decode cX10_ready 33 = .ok (.iconst 1, 1) := by decide +kernel
theorem dX10_ready_34 : decode cX10_ready 34 = .ok (.if_icmp .ne 12, 3) := by decide +kernel
theorem dX10_ready_37 : decode cX10_ready 37 = .ok (.aload_n 0, 1) := by decide +kernel
theorem dX10_ready_38 : decode cX10_ready 38 = .ok (.getfield 69, 3) := by decide +kernel
theorem dX10_ready_41 : decode cX10_ready 41 = .ok (.iload_n 1, 1) := by decide +kernel
theorem dX10_ready_42 : decode cX10_ready 42 = .ok (.iaload, 1) := by decide +kernel
theorem dX10_ready_43 : decode cX10_ready 43 = .ok (.goto 4, 3) := by decide +kernel
theorem dX10_ready_46 : decode cX10_ready 46 = .ok (.iconst (-1), 1) := by decide +kernel
theorem dX10_ready_47 : decode cX10_ready 47 = .ok (.ireturn, 1) := by decide +kernel
theorem dX10_result_0 : decode cX10_result 0 = .ok (.aload_n 0, 1) := by decide +kernel
theorem dX10_result_1 : decode cX10_result 1 = .ok (.iload_n 1, 1) := by decide +kernel
theorem dX10_result_2 : decode cX10_result 2 = .ok (.ifCond .lt 20, 3) := by decide +kernel
theorem dX10_result_5 : decode cX10_result 5 = .ok (.iload_n 1, 1) := by decide +kernel
theorem dX10_result_6 : decode cX10_result 6 = .ok (.aload_n 0, 1) := by decide +kernel
theorem dX10_result_7 : decode cX10_result 7 = .ok (.getfield 175, 3) := by decide +kernel
theorem dX10_result_10 : decode cX10_result 10 = .ok (.if_icmp .ge 12, 3) := by decide +kernel
theorem dX10_result_13 : decode cX10_result 13 = .ok (.iload_n 2, 1) := by decide +kernel
theorem dX10_result_14 : decode cX10_result 14 = .ok (.ifCond .lt 8, 3) := by decide +kernel
theorem dX10_result_17 : decode cX10_result 17 = .ok (.iload_n 2, 1) := by decide +kernel
theorem dX10_result_18 : decode cX10_result 18 = .ok (.iconst 2, 1) := by decide +kernel
theorem dX10_result_19 : decode cX10_result 19 = .ok (.if_icmp .le 7, 3) := by decide +kernel
theorem dX10_result_22 : decode cX10_result 22 = .ok (.iconst 1, 1) := by decide +kernel
theorem dX10_result_23 : decode cX10_result 23 = .ok (.goto 4, 3) := by decide +kernel
theorem dX10_result_26 : decode cX10_result 26 = .ok (.iconst 0, 1) := by decide +kernel
theorem dX10_result_27 : decode cX10_result 27 = .ok (.putfield 102, 3) := by decide +kernel
theorem dX10_result_30 : decode cX10_result 30 = .ok (.aload_n 0, 1) := by decide +kernel
theorem dX10_result_31 : decode cX10_result 31 = .ok (.getfield 102, 3) := by decide +kernel
theorem dX10_result_34 : decode cX10_result 34 = .ok (.ifCond .le 5, 3) := by decide +kernel
theorem dX10_result_37 : decode cX10_result 37 = .ok (.lconst 0, 1) := by decide +kernel
theorem dX10_result_38 : decode cX10_result 38 = .ok (.lreturn, 1) := by decide +kernel
theorem dX10_result_39 : decode cX10_result 39 = .ok (.iload_n 2, 1) := by decide +kernel
theorem dX10_result_40 : decode cX10_result 40 = .ok (.ifCond .ne 13, 3) := by decide +kernel
theorem dX10_result_43 : decode cX10_result 43 = .ok (.aload_n 0, 1) := by decide +kernel
theorem dX10_result_44 : decode cX10_result 44 = .ok (.getfield 87, 3) := by decide +kernel
theorem dX10_result_47 : decode cX10_result 47 = .ok (.iload_n 1, 1) := by decide +kernel
theorem dX10_result_48 : decode cX10_result 48 = .ok (.iaload, 1) := by decide +kernel
theorem dX10_result_49 : decode cX10_result 49 = .ok (.i2l, 1) := by decide +kernel
theorem dX10_result_50 : decode cX10_result 50 = .ok (.goto 24, 3) := by decide +kernel
theorem dX10_result_53 : decode cX10_result 53 = .ok (.iload_n 2, 1) := by decide +kernel
theorem dX10_result_54 : decode cX10_result 54 = .ok (.iconst 1, 1) := by decide +kernel
theorem dX10_result_55 : decode cX10_result 55 = .ok (.if_icmp .ne 12, 3) := by decide +kernel
theorem dX10_result_58 : decode cX10_result 58 = .ok (.aload_n 0, 1) := by decide +kernel
theorem dX10_result_59 : decode cX10_result 59 = .ok (.getfield 90, 3) := by decide +kernel
theorem dX10_result_62 : decode cX10_result 62 = .ok (.iload_n 1, 1) := by decide +kernel
theorem dX10_result_63 : decode cX10_result 63 = .ok (.laload, 1) := by decide +kernel
theorem dX10_result_64 : decode cX10_result 64 = .ok (.goto 10, 3) := by decide +kernel
theorem dX10_result_67 : decode cX10_result 67 = .ok (.aload_n 0, 1) := by decide +kernel
theorem dX10_result_68 : decode cX10_result 68 = .ok (.getfield 93, 3) := by decide +kernel
theorem dX10_result_71 : decode cX10_result 71 = .ok (.iload_n 1, 1) := by decide +kernel
theorem dX10_result_72 : decode cX10_result 72 = .ok (.iaload, 1) := by decide +kernel
theorem dX10_result_73 : decode cX10_result 73 = .ok (.i2l, 1) := by decide +kernel
theorem dX10_result_74 : decode cX10_result 74 = .ok (.lreturn, 1) := by decide +kernel
theorem dX10_context_0 : decode cX10_context 0 = .ok (.aload_n 0, 1) := by decide +kernel
theorem dX10_context_1 : decode cX10_context 1 = .ok (.iload_n 1, 1) := by decide +kernel
theorem dX10_context_2 : decode cX10_context 2 = .ok (.ifCond .lt 20, 3) := by decide +kernel
theorem dX10_context_5 : decode cX10_context 5 = .ok (.iload_n 1, 1) := by decide +kernel
theorem dX10_context_6 : decode cX10_context 6 = .ok (.aload_n 0, 1) := by decide +kernel
theorem dX10_context_7 : decode cX10_context 7 = .ok (.getfield 28, 3) := by decide +kernel
theorem dX10_context_10 : decode cX10_context 10 = .ok (.if_icmp .ge 12, 3) := by decide +kernel
theorem dX10_context_13 : decode cX10_context 13 = .ok (.iload_n 2, 1) := by decide +kernel
theorem dX10_context_14 : decode cX10_context 14 = .ok (.ifCond .lt 8, 3) := by decide +kernel
theorem dX10_context_17 : decode cX10_context 17 = .ok (.iload_n 2, 1) := by decide +kernel
theorem dX10_context_18 : decode cX10_context 18 = .ok (.iconst 2, 1) := by decide +kernel
theorem dX10_context_19 : decode cX10_context 19 = .ok (.if_icmp .le 7, 3) := by decide +kernel
theorem dX10_context_22 : decode cX10_context 22 = .ok (.iconst 1, 1) := by decide +kernel
theorem dX10_context_23 : decode cX10_context 23 = .ok (.goto 4, 3) := by decide +kernel
theorem dX10_context_26 : decode cX10_context 26 = .ok (.iconst 0, 1) := by decide +kernel
theorem dX10_context_27 : decode cX10_context 27 = .ok (.putfield 102, 3) := by decide +kernel
theorem dX10_context_30 : decode cX10_context 30 = .ok (.aload_n 0, 1) := by decide +kernel
theorem dX10_context_31 : decode cX10_context 31 = .ok (.getfield 102, 3) := by decide +kernel
theorem dX10_context_34 : decode cX10_context 34 = .ok (.ifCond .le 5, 3) := by decide +kernel
theorem dX10_context_37 : decode cX10_context 37 = .ok (.iconst 0, 1) := by decide +kernel
theorem dX10_context_38 : decode cX10_context 38 = .ok (.ireturn, 1) := by decide +kernel
theorem dX10_context_39 : decode cX10_context 39 = .ok (.iload_n 2, 1) := by decide +kernel
theorem dX10_context_40 : decode cX10_context 40 = .ok (.ifCond .ne 12, 3) := by decide +kernel
theorem dX10_context_43 : decode cX10_context 43 = .ok (.aload_n 0, 1) := by decide +kernel
theorem dX10_context_44 : decode cX10_context 44 = .ok (.getfield 32, 3) := by decide +kernel
theorem dX10_context_47 : decode cX10_context 47 = .ok (.iload_n 1, 1) := by decide +kernel
theorem dX10_context_48 : decode cX10_context 48 = .ok (.iaload, 1) := by decide +kernel
theorem dX10_context_49 : decode cX10_context 49 = .ok (.goto 23, 3) := by decide +kernel
theorem dX10_context_52 : decode cX10_context 52 = .ok (.iload_n 2, 1) := by decide +kernel
theorem dX10_context_53 : decode cX10_context 53 = .ok (.iconst 1, 1) := by decide +kernel
theorem dX10_context_54 : decode cX10_context 54 = .ok (.if_icmp .ne 12, 3) := by decide +kernel
theorem dX10_context_57 : decode cX10_context 57 = .ok (.aload_n 0, 1) := by decide +kernel
theorem dX10_context_58 : decode cX10_context 58 = .ok (.getfield 35, 3) := by decide +kernel
theorem dX10_context_61 : decode cX10_context 61 = .ok (.iload_n 1, 1) := by decide +kernel
theorem dX10_context_62 : decode cX10_context 62 = .ok (.iaload, 1) := by decide +kernel
theorem dX10_context_63 : decode cX10_context 63 = .ok (.goto 9, 3) := by decide +kernel
theorem dX10_context_66 : decode cX10_context 66 = .ok (.aload_n 0, 1) := by decide +kernel
theorem dX10_context_67 : decode cX10_context 67 = .ok (.getfield 38, 3) := by decide +kernel
theorem dX10_context_70 : decode cX10_context 70 = .ok (.iload_n 1, 1) := by decide +kernel
theorem dX10_context_71 : decode cX10_context 71 = .ok (.iaload, 1) := by decide +kernel
theorem dX10_context_72 : decode cX10_context 72 = .ok (.ireturn, 1) := by decide +kernel
theorem dX10_cell_0 : decode cX10_cell 0 = .ok (.aload_n 0, 1) := by decide +kernel
theorem dX10_cell_1 : decode cX10_cell 1 = .ok (.iload_n 1, 1) := by decide +kernel
theorem dX10_cell_2 : decode cX10_cell 2 = .ok (.ifCond .lt 34, 3) := by decide +kernel
theorem dX10_cell_5 : decode cX10_cell 5 = .ok (.iload_n 1, 1) := by decide +kernel
theorem dX10_cell_6 : decode cX10_cell 6 = .ok (.aload_n 0, 1) := by decide +kernel
theorem dX10_cell_7 : decode cX10_cell 7 = .ok (.getfield 194, 3) := by decide +kernel
theorem dX10_cell_10 : decode cX10_cell 10 = .ok (.if_icmp .ge 26, 3) := by decide +kernel
theorem dX10_cell_13 : decode cX10_cell 13 = .ok (.iload_n 2, 1) := by decide +kernel
theorem dX10_cell_14 : decode cX10_cell 14 = .ok (.ifCond .lt 22, 3) := by decide +kernel
theorem dX10_cell_17 : decode cX10_cell 17 = .ok (.iload_n 2, 1) := by decide +kernel
theorem dX10_cell_18 : decode cX10_cell 18 = .ok (.aload_n 0, 1) := by decide +kernel
theorem dX10_cell_19 : decode cX10_cell 19 = .ok (.getfield 41, 3) := by decide +kernel
theorem dX10_cell_22 : decode cX10_cell 22 = .ok (.iload_n 1, 1) := by decide +kernel
theorem dX10_cell_23 : decode cX10_cell 23 = .ok (.iaload, 1) := by decide +kernel
theorem dX10_cell_24 : decode cX10_cell 24 = .ok (.if_icmp .ge 12, 3) := by decide +kernel
theorem dX10_cell_27 : decode cX10_cell 27 = .ok (.iload_n 3, 1) := by decide +kernel
theorem dX10_cell_28 : decode cX10_cell 28 = .ok (.ifCond .lt 8, 3) := by decide +kernel
theorem dX10_cell_31 : decode cX10_cell 31 = .ok (.iload_n 3, 1) := by decide +kernel
theorem dX10_cell_32 : decode cX10_cell 32 = .ok (.iconst 2, 1) := by decide +kernel
theorem dX10_cell_33 : decode cX10_cell 33 = .ok (.if_icmp .le 7, 3) := by decide +kernel
theorem dX10_cell_36 : decode cX10_cell 36 = .ok (.iconst 1, 1) := by decide +kernel
theorem dX10_cell_37 : decode cX10_cell 37 = .ok (.goto 4, 3) := by decide +kernel
theorem dX10_cell_40 : decode cX10_cell 40 = .ok (.iconst 0, 1) := by decide +kernel
theorem dX10_cell_41 : decode cX10_cell 41 = .ok (.putfield 102, 3) := by decide +kernel
theorem dX10_cell_44 : decode cX10_cell 44 = .ok (.aload_n 0, 1) := by decide +kernel
theorem dX10_cell_45 : decode cX10_cell 45 = .ok (.getfield 102, 3) := by decide +kernel
theorem dX10_cell_48 : decode cX10_cell 48 = .ok (.ifCond .le 5, 3) := by decide +kernel
theorem dX10_cell_51 : decode cX10_cell 51 = .ok (.lconst 0, 1) := by decide +kernel
theorem dX10_cell_52 : decode cX10_cell 52 = .ok (.lreturn, 1) := by decide +kernel
theorem dX10_cell_53 : decode cX10_cell 53 = .ok (.bipush 8, 2) := by decide +kernel
theorem dX10_cell_55 : decode cX10_cell 55 = .ok (.iload_n 1, 1) := by decide +kernel
theorem dX10_cell_56 : decode cX10_cell 56 = .ok (.imul, 1) := by decide +kernel
theorem dX10_cell_57 : decode cX10_cell 57 = .ok (.iload_n 2, 1) := by decide +kernel
theorem dX10_cell_58 : decode cX10_cell 58 = .ok (.iadd, 1) := by decide +kernel
theorem dX10_cell_59 : decode cX10_cell 59 = .ok (.istore 4, 2) := by decide +kernel
theorem dX10_cell_61 : decode cX10_cell 61 = .ok (.iconst 0, 1) := by decide +kernel
theorem dX10_cell_62 : decode cX10_cell 62 = .ok (.istore 5, 2) := by decide +kernel
theorem dX10_cell_64 : decode cX10_cell 64 = .ok (.iconst 0, 1) := by decide +kernel
theorem dX10_cell_65 : decode cX10_cell 65 = .ok (.istore 6, 2) := by decide +kernel
theorem dX10_cell_67 : decode cX10_cell 67 = .ok (.iload 6, 2) := by decide +kernel
theorem dX10_cell_69 : decode cX10_cell 69 = .ok (.aload_n 0, 1) := by decide +kernel
theorem dX10_cell_70 : decode cX10_cell 70 = .ok (.getfield 136, 3) := by decide +kernel
theorem dX10_cell_73 : decode cX10_cell 73 = .ok (.if_icmp .ge 31, 3) := by decide +kernel
theorem dX10_cell_76 : decode cX10_cell 76 = .ok (.iload 5, 2) := by decide +kernel
theorem dX10_cell_78 : decode cX10_cell 78 = .ok (.aload_n 0, 1) := by decide +kernel
theorem dX10_cell_79 : decode cX10_cell 79 = .ok (.getfield 84, 3) := by decide +kernel
theorem dX10_cell_82 : decode cX10_cell 82 = .ok (.iload 6, 2) := by decide +kernel
theorem dX10_cell_84 : decode cX10_cell 84 = .ok (.iaload, 1) := by decide +kernel
theorem dX10_cell_85 : decode cX10_cell 85 = .ok (.iload 4, 2) := by decide +kernel
theorem dX10_cell_87 : decode cX10_cell 87 = .ok (.if_icmp .ne 7, 3) := by decide +kernel
theorem dX10_cell_90 : decode cX10_cell 90 = .ok (.iconst 1, 1) := by decide +kernel
theorem dX10_cell_91 : decode cX10_cell 91 = .ok (.goto 4, 3) := by decide +kernel
theorem dX10_cell_94 : decode cX10_cell 94 = .ok (.iconst 0, 1) := by decide +kernel
theorem dX10_cell_95 : decode cX10_cell 95 = .ok (.iadd, 1) := by decide +kernel
theorem dX10_cell_96 : decode cX10_cell 96 = .ok (.istore 5, 2) := by decide +kernel
theorem dX10_cell_98 : decode cX10_cell 98 = .ok (.iinc 6 1, 3) := by decide +kernel
theorem dX10_cell_101 : decode cX10_cell 101 = .ok (.goto (-34), 3) := by decide +kernel
theorem dX10_cell_104 : decode cX10_cell 104 = .ok (.iload_n 3, 1) := by decide +kernel
theorem dX10_cell_105 : decode cX10_cell 105 = .ok (.ifCond .ne 14, 3) := by decide +kernel
theorem dX10_cell_108 : decode cX10_cell 108 = .ok (.aload_n 0, 1) := by decide +kernel
theorem dX10_cell_109 : decode cX10_cell 109 = .ok (.getfield 44, 3) := by decide +kernel
theorem dX10_cell_112 : decode cX10_cell 112 = .ok (.iload 4, 2) := by decide +kernel
theorem dX10_cell_114 : decode cX10_cell 114 = .ok (.iaload, 1) := by decide +kernel
theorem dX10_cell_115 : decode cX10_cell 115 = .ok (.i2l, 1) := by decide +kernel
theorem dX10_cell_116 : decode cX10_cell 116 = .ok (.goto 21, 3) := by decide +kernel
theorem dX10_cell_119 : decode cX10_cell 119 = .ok (.iload_n 3, 1) := by decide +kernel
theorem dX10_cell_120 : decode cX10_cell 120 = .ok (.iconst 1, 1) := by decide +kernel
theorem dX10_cell_121 : decode cX10_cell 121 = .ok (.if_icmp .ne 13, 3) := by decide +kernel
theorem dX10_cell_124 : decode cX10_cell 124 = .ok (.aload_n 0, 1) := by decide +kernel
theorem dX10_cell_125 : decode cX10_cell 125 = .ok (.getfield 47, 3) := by decide +kernel
theorem dX10_cell_128 : decode cX10_cell 128 = .ok (.iload 4, 2) := by decide +kernel
theorem dX10_cell_130 : decode cX10_cell 130 = .ok (.laload, 1) := by decide +kernel
theorem dX10_cell_131 : decode cX10_cell 131 = .ok (.goto 6, 3) := by decide +kernel
theorem dX10_cell_134 : decode cX10_cell 134 = .ok (.iload 5, 2) := by decide +kernel
theorem dX10_cell_136 : decode cX10_cell 136 = .ok (.i2l, 1) := by decide +kernel
theorem dX10_cell_137 : decode cX10_cell 137 = .ok (.lreturn, 1) := by decide +kernel
theorem dX10_waiting_0 : decode cX10_waiting 0 = .ok (.aload_n 0, 1) := by decide +kernel
theorem dX10_waiting_1 : decode cX10_waiting 1 = .ok (.iconst 0, 1) := by decide +kernel
theorem dX10_waiting_2 : decode cX10_waiting 2 = .ok (.putfield 102, 3) := by decide +kernel
theorem dX10_waiting_5 : decode cX10_waiting 5 = .ok (.aload_n 0, 1) := by decide +kernel
theorem dX10_waiting_6 : decode cX10_waiting 6 = .ok (.iload_n 1, 1) := by decide +kernel
theorem dX10_waiting_7 : decode cX10_waiting 7 = .ok (.invokevirtual 116, 3) := by decide +kernel
theorem dX10_waiting_10 : decode cX10_waiting 10 = .ok (.ifCond .eq 15, 3) := by decide +kernel
theorem dX10_waiting_13 : decode cX10_waiting 13 = .ok (.iload_n 2, 1) := by decide +kernel
theorem dX10_waiting_14 : decode cX10_waiting 14 = .ok (.ifCond .lt 11, 3) := by decide +kernel
theorem dX10_waiting_17 : decode cX10_waiting 17 = .ok (.iload_n 2, 1) := by decide +kernel
theorem dX10_waiting_18 : decode cX10_waiting 18 = .ok (.aload_n 0, 1) := by decide +kernel
theorem dX10_waiting_19 : decode cX10_waiting 19 = .ok (.getfield 28, 3) := by decide +kernel
theorem dX10_waiting_22 : decode cX10_waiting 22 = .ok (.if_icmp .lt 5, 3) := by decide +kernel
theorem dX10_waiting_25 : decode cX10_waiting 25 = .ok (.iconst (-1), 1) := by decide +kernel
theorem dX10_waiting_26 : decode cX10_waiting 26 = .ok (.ireturn, 1) := by decide +kernel
theorem dX10_waiting_27 : decode cX10_waiting 27 = .ok (.iconst 0, 1) := by decide +kernel
theorem dX10_waiting_28 : decode cX10_waiting 28 = .ok (.istore_n 3, 1) := by decide +kernel
theorem dX10_waiting_29 : decode cX10_waiting 29 = .ok (.iconst 0, 1) := by decide +kernel
theorem dX10_waiting_30 : decode cX10_waiting 30 = .ok (.istore 4, 2) := by decide +kernel
theorem dX10_waiting_32 : decode cX10_waiting 32 = .ok (.iload 4, 2) := by decide +kernel
theorem dX10_waiting_34 : decode cX10_waiting 34 = .ok (.aload_n 0, 1) := by decide +kernel
theorem dX10_waiting_35 : decode cX10_waiting 35 = .ok (.getfield 123, 3) := by decide +kernel
theorem dX10_waiting_38 : decode cX10_waiting 38 = .ok (.if_icmp .ge 39, 3) := by decide +kernel
theorem dX10_waiting_41 : decode cX10_waiting 41 = .ok (.iload_n 3, 1) := by decide +kernel
theorem dX10_waiting_42 : decode cX10_waiting 42 = .ok (.aload_n 0, 1) := by decide +kernel
theorem dX10_waiting_43 : decode cX10_waiting 43 = .ok (.getfield 51, 3) := by decide +kernel
theorem dX10_waiting_46 : decode cX10_waiting 46 = .ok (.iload 4, 2) := by decide +kernel
theorem dX10_waiting_48 : decode cX10_waiting 48 = .ok (.iaload, 1) := by decide +kernel
theorem dX10_waiting_49 : decode cX10_waiting 49 = .ok (.iload_n 1, 1) := by decide +kernel
theorem dX10_waiting_50 : decode cX10_waiting 50 = .ok (.if_icmp .ne 18, 3) := by decide +kernel
theorem dX10_waiting_53 : decode cX10_waiting 53 = .ok (.aload_n 0, 1) := by decide +kernel
theorem dX10_waiting_54 : decode cX10_waiting 54 = .ok (.getfield 57, 3) := by decide +kernel
theorem dX10_waiting_57 : decode cX10_waiting 57 = .ok (.iload 4, 2) := by decide +kernel
theorem dX10_waiting_59 : decode cX10_waiting 59 = .ok (.iaload, 1) := by decide +kernel
theorem dX10_waiting_60 : decode cX10_waiting 60 = .ok (.iload_n 2, 1) := by decide +kernel
theorem dX10_waiting_61 : decode cX10_waiting 61 = .ok (.if_icmp .ne 7, 3) := by decide +kernel
theorem dX10_waiting_64 : decode cX10_waiting 64 = .ok (.iconst 1, 1) := by decide +kernel
theorem dX10_waiting_65 : decode cX10_waiting 65 = .ok (.goto 4, 3) := by decide +kernel
theorem dX10_waiting_68 : decode cX10_waiting 68 = .ok (.iconst 0, 1) := by decide +kernel
theorem dX10_waiting_69 : decode cX10_waiting 69 = .ok (.iadd, 1) := by decide +kernel
theorem dX10_waiting_70 : decode cX10_waiting 70 = .ok (.istore_n 3, 1) := by decide +kernel
theorem dX10_waiting_71 : decode cX10_waiting 71 = .ok (.iinc 4 1, 3) := by decide +kernel
theorem dX10_waiting_74 : decode cX10_waiting 74 = .ok (.goto (-42), 3) := by decide +kernel
theorem dX10_waiting_77 : decode cX10_waiting 77 = .ok (.iload_n 3, 1) := by decide +kernel
theorem dX10_waiting_78 : decode cX10_waiting 78 = .ok (.ireturn, 1) := by decide +kernel
theorem dX10_total_0 : decode cX10_total 0 = .ok (.aload_n 0, 1) := by decide +kernel
theorem dX10_total_1 : decode cX10_total 1 = .ok (.iconst 0, 1) := by decide +kernel
theorem dX10_total_2 : decode cX10_total 2 = .ok (.putfield 102, 3) := by decide +kernel
theorem dX10_total_5 : decode cX10_total 5 = .ok (.iload_n 1, 1) := by decide +kernel
theorem dX10_total_6 : decode cX10_total 6 = .ok (.tableswitch 104 0 9 #[54, 59, 64, 69, 74, 79, 84, 89, 94, 99], 54) := by decide +kernel
theorem dX10_total_60 : decode cX10_total 60 = .ok (.aload_n 0, 1) := by decide +kernel
theorem dX10_total_61 : decode cX10_total 61 = .ok (.getfield 105, 3) := by decide +kernel
theorem dX10_total_64 : decode cX10_total 64 = .ok (.ireturn, 1) := by decide +kernel
theorem dX10_total_65 : decode cX10_total 65 = .ok (.aload_n 0, 1) := by decide +kernel
theorem dX10_total_66 : decode cX10_total 66 = .ok (.getfield 133, 3) := by decide +kernel
theorem dX10_total_69 : decode cX10_total 69 = .ok (.ireturn, 1) := by decide +kernel
theorem dX10_total_70 : decode cX10_total 70 = .ok (.aload_n 0, 1) := by decide +kernel
theorem dX10_total_71 : decode cX10_total 71 = .ok (.getfield 123, 3) := by decide +kernel
theorem dX10_total_74 : decode cX10_total 74 = .ok (.ireturn, 1) := by decide +kernel
theorem dX10_total_75 : decode cX10_total 75 = .ok (.aload_n 0, 1) := by decide +kernel
theorem dX10_total_76 : decode cX10_total 76 = .ok (.getfield 175, 3) := by decide +kernel
theorem dX10_total_79 : decode cX10_total 79 = .ok (.ireturn, 1) := by decide +kernel
theorem dX10_total_80 : decode cX10_total 80 = .ok (.aload_n 0, 1) := by decide +kernel
theorem dX10_total_81 : decode cX10_total 81 = .ok (.getfield 28, 3) := by decide +kernel
theorem dX10_total_84 : decode cX10_total 84 = .ok (.ireturn, 1) := by decide +kernel
theorem dX10_total_85 : decode cX10_total 85 = .ok (.aload_n 0, 1) := by decide +kernel
theorem dX10_total_86 : decode cX10_total 86 = .ok (.getfield 194, 3) := by decide +kernel
theorem dX10_total_89 : decode cX10_total 89 = .ok (.ireturn, 1) := by decide +kernel
theorem dX10_total_90 : decode cX10_total 90 = .ok (.aload_n 0, 1) := by decide +kernel
theorem dX10_total_91 : decode cX10_total 91 = .ok (.getfield 136, 3) := by decide +kernel
theorem dX10_total_94 : decode cX10_total 94 = .ok (.ireturn, 1) := by decide +kernel
theorem dX10_total_95 : decode cX10_total 95 = .ok (.aload_n 0, 1) := by decide +kernel
theorem dX10_total_96 : decode cX10_total 96 = .ok (.getfield 126, 3) := by decide +kernel
theorem dX10_total_99 : decode cX10_total 99 = .ok (.ireturn, 1) := by decide +kernel
theorem dX10_total_100 : decode cX10_total 100 = .ok (.aload_n 0, 1) := by decide +kernel
theorem dX10_total_101 : decode cX10_total 101 = .ok (.getfield 210, 3) := by decide +kernel
theorem dX10_total_104 : decode cX10_total 104 = .ok (.ireturn, 1) := by decide +kernel
theorem dX10_total_105 : decode cX10_total 105 = .ok (.aload_n 0, 1) := by decide +kernel
theorem dX10_total_106 : decode cX10_total 106 = .ok (.getfield 203, 3) := by decide +kernel
theorem dX10_total_109 : decode cX10_total 109 = .ok (.ireturn, 1) := by decide +kernel
theorem dX10_total_110 : decode cX10_total 110 = .ok (.iconst (-1), 1) := by decide +kernel
theorem dX10_total_111 : decode cX10_total 111 = .ok (.ireturn, 1) := by decide +kernel
theorem dJ9_max_7cf53_0 : decode cJ9_max_7cf53 0 = .ok (.iload_n 0, 1) := by decide +kernel
theorem dJ9_max_7cf53_1 : decode cJ9_max_7cf53 1 = .ok (.iload_n 1, 1) := by decide +kernel
theorem dJ9_max_7cf53_2 : decode cJ9_max_7cf53 2 = .ok (.if_icmp .lt 7, 3) := by decide +kernel
theorem dJ9_max_7cf53_5 : decode cJ9_max_7cf53 5 = .ok (.iload_n 0, 1) := by decide +kernel
theorem dJ9_max_7cf53_6 : decode cJ9_max_7cf53 6 = .ok (.goto 4, 3) := by decide +kernel
theorem dJ9_max_7cf53_9 : decode cJ9_max_7cf53 9 = .ok (.iload_n 1, 1) := by decide +kernel
theorem dJ9_max_7cf53_10 : decode cJ9_max_7cf53 10 = .ok (.ireturn, 1) := by decide +kernel
theorem dJ9_min_7cf53_0 : decode cJ9_min_7cf53 0 = .ok (.iload_n 0, 1) := by decide +kernel
theorem dJ9_min_7cf53_1 : decode cJ9_min_7cf53 1 = .ok (.iload_n 1, 1) := by decide +kernel
theorem dJ9_min_7cf53_2 : decode cJ9_min_7cf53 2 = .ok (.if_icmp .gt 7, 3) := by decide +kernel
theorem dJ9_min_7cf53_5 : decode cJ9_min_7cf53 5 = .ok (.iload_n 0, 1) := by decide +kernel
theorem dJ9_min_7cf53_6 : decode cJ9_min_7cf53 6 = .ok (.goto 4, 3) := by decide +kernel
theorem dJ9_min_7cf53_9 : decode cJ9_min_7cf53 9 = .ok (.iload_n 1, 1) := by decide +kernel
theorem dJ9_min_7cf53_10 : decode cJ9_min_7cf53 10 = .ok (.ireturn, 1) := by decide +kernel
theorem dJxa1e45_init_da8c8_0 : decode cJxa1e45_init_da8c8 0 = .ok (.aload_n 0, 1) := by decide +kernel
theorem dJxa1e45_init_da8c8_1 : decode cJxa1e45_init_da8c8 1 = .ok (.invokespecial 1, 3) := by decide +kernel
theorem dJxa1e45_init_da8c8_4 : decode cJxa1e45_init_da8c8 4 = .ok (.return_, 1) := by decide +kernel
theorem dJxc12de_init_da8c8_0 : decode cJxc12de_init_da8c8 0 = .ok (.aload_n 0, 1) := by decide +kernel
theorem dJxc12de_init_da8c8_1 : decode cJxc12de_init_da8c8 1 = .ok (.invokespecial 1, 3) := by decide +kernel
theorem dJxc12de_init_da8c8_4 : decode cJxc12de_init_da8c8 4 = .ok (.aload_n 0, 1) := by decide +kernel
theorem dJxc12de_init_da8c8_5 : decode cJxc12de_init_da8c8 5 = .ok (.iconst 0, 1) := by decide +kernel
theorem dJxc12de_init_da8c8_6 : decode cJxc12de_init_da8c8 6 = .ok (.putfield 7, 3) := by decide +kernel
theorem dJxc12de_init_da8c8_9 : decode cJxc12de_init_da8c8 9 = .ok (.return_, 1) := by decide +kernel
theorem dJx4a65c_init_da8c8_0 : decode cJx4a65c_init_da8c8 0 = .ok (.aload_n 0, 1) := by decide +kernel
theorem dJx4a65c_init_da8c8_1 : decode cJx4a65c_init_da8c8 1 = .ok (.invokespecial 1, 3) := by decide +kernel
theorem dJx4a65c_init_da8c8_4 : decode cJx4a65c_init_da8c8 4 = .ok (.aload_n 0, 1) := by decide +kernel
theorem dJx4a65c_init_da8c8_5 : decode cJx4a65c_init_da8c8 5 = .ok (.getstatic 39, 3) := by decide +kernel
theorem dJx4a65c_init_da8c8_8 : decode cJx4a65c_init_da8c8 8 = .ok (.putfield 9, 3) := by decide +kernel
theorem dJx4a65c_init_da8c8_11 : decode cJx4a65c_init_da8c8 11 = .ok (.return_, 1) := by decide +kernel
theorem dJx4a65c_grow_92f84_0 : decode cJx4a65c_grow_92f84 0 = .ok (.aload_n 0, 1) := by decide +kernel
theorem dJx4a65c_grow_92f84_1 : decode cJx4a65c_grow_92f84 1 = .ok (.getfield 9, 3) := by decide +kernel
theorem dJx4a65c_grow_92f84_4 : decode cJx4a65c_grow_92f84 4 = .ok (.arraylength, 1) := by decide +kernel
theorem dJx4a65c_grow_92f84_5 : decode cJx4a65c_grow_92f84 5 = .ok (.istore_n 2, 1) := by decide +kernel
theorem dJx4a65c_grow_92f84_6 : decode cJx4a65c_grow_92f84 6 = .ok (.iload_n 2, 1) := by decide +kernel
theorem dJx4a65c_grow_92f84_7 : decode cJx4a65c_grow_92f84 7 = .ok (.ifCond .gt 13, 3) := by decide +kernel
theorem dJx4a65c_grow_92f84_10 : decode cJx4a65c_grow_92f84 10 = .ok (.aload_n 0, 1) := by decide +kernel
theorem dJx4a65c_grow_92f84_11 : decode cJx4a65c_grow_92f84 11 = .ok (.getfield 9, 3) := by decide +kernel
theorem dJx4a65c_grow_92f84_14 : decode cJx4a65c_grow_92f84 14 = .ok (.getstatic 39, 3) := by decide +kernel
theorem dJx4a65c_grow_92f84_17 : decode cJx4a65c_grow_92f84 17 = .ok (.if_acmp .eq 28, 3) := by decide +kernel
theorem dJx4a65c_grow_92f84_20 : decode cJx4a65c_grow_92f84 20 = .ok (.iload_n 2, 1) := by decide +kernel
theorem dJx4a65c_grow_92f84_21 : decode cJx4a65c_grow_92f84 21 = .ok (.iload_n 1, 1) := by decide +kernel
theorem dJx4a65c_grow_92f84_22 : decode cJx4a65c_grow_92f84 22 = .ok (.iload_n 2, 1) := by decide +kernel
theorem dJx4a65c_grow_92f84_23 : decode cJx4a65c_grow_92f84 23 = .ok (.isub, 1) := by decide +kernel
theorem dJx4a65c_grow_92f84_24 : decode cJx4a65c_grow_92f84 24 = .ok (.iload_n 2, 1) := by decide +kernel
theorem dJx4a65c_grow_92f84_25 : decode cJx4a65c_grow_92f84 25 = .ok (.iconst 1, 1) := by decide +kernel
theorem dJx4a65c_grow_92f84_26 : decode cJx4a65c_grow_92f84 26 = .ok (.ishr, 1) := by decide +kernel
theorem dJx4a65c_grow_92f84_27 : decode cJx4a65c_grow_92f84 27 = .ok (.invokestatic 73, 3) := by decide +kernel
theorem dJx4a65c_grow_92f84_30 : decode cJx4a65c_grow_92f84 30 = .ok (.istore_n 3, 1) := by decide +kernel
theorem dJx4a65c_grow_92f84_31 : decode cJx4a65c_grow_92f84 31 = .ok (.aload_n 0, 1) := by decide +kernel
theorem dJx4a65c_grow_92f84_32 : decode cJx4a65c_grow_92f84 32 = .ok (.aload_n 0, 1) := by decide +kernel
theorem dJx4a65c_grow_92f84_33 : decode cJx4a65c_grow_92f84 33 = .ok (.getfield 9, 3) := by decide +kernel
theorem dJx4a65c_grow_92f84_36 : decode cJx4a65c_grow_92f84 36 = .ok (.iload_n 3, 1) := by decide +kernel
theorem dJx4a65c_grow_92f84_37 : decode cJx4a65c_grow_92f84 37 = .ok (.invokestatic 66, 3) := by decide +kernel
theorem dJx4a65c_grow_92f84_40 : decode cJx4a65c_grow_92f84 40 = .ok (.dup_x1, 1) := by decide +kernel
theorem dJx4a65c_grow_92f84_41 : decode cJx4a65c_grow_92f84 41 = .ok (.putfield 9, 3) := by decide +kernel
theorem dJx4a65c_grow_92f84_44 : decode cJx4a65c_grow_92f84 44 = .ok (.areturn, 1) := by decide +kernel
theorem dJx4a65c_grow_92f84_45 : decode cJx4a65c_grow_92f84 45 = .ok (.aload_n 0, 1) := by decide +kernel
theorem dJx4a65c_grow_92f84_46 : decode cJx4a65c_grow_92f84 46 = .ok (.bipush 10, 2) := by decide +kernel
theorem dJx4a65c_grow_92f84_48 : decode cJx4a65c_grow_92f84 48 = .ok (.iload_n 1, 1) := by decide +kernel
theorem dJx4a65c_grow_92f84_49 : decode cJx4a65c_grow_92f84 49 = .ok (.invokestatic 79, 3) := by decide +kernel
theorem dJx4a65c_grow_92f84_52 : decode cJx4a65c_grow_92f84 52 = .ok (.anewarray 7, 3) := by decide +kernel
theorem dJx4a65c_grow_92f84_55 : decode cJx4a65c_grow_92f84 55 = .ok (.dup_x1, 1) := by decide +kernel
theorem dJx4a65c_grow_92f84_56 : decode cJx4a65c_grow_92f84 56 = .ok (.putfield 9, 3) := by decide +kernel
theorem dJx4a65c_grow_92f84_59 : decode cJx4a65c_grow_92f84 59 = .ok (.areturn, 1) := by decide +kernel
theorem dJx4a65c_grow_d5877_0 : decode cJx4a65c_grow_d5877 0 = .ok (.aload_n 0, 1) := by decide +kernel
theorem dJx4a65c_grow_d5877_1 : decode cJx4a65c_grow_d5877 1 = .ok (.aload_n 0, 1) := by decide +kernel
theorem dJx4a65c_grow_d5877_2 : decode cJx4a65c_grow_d5877 2 = .ok (.getfield 48, 3) := by decide +kernel
theorem dJx4a65c_grow_d5877_5 : decode cJx4a65c_grow_d5877 5 = .ok (.iconst 1, 1) := by decide +kernel
theorem dJx4a65c_grow_d5877_6 : decode cJx4a65c_grow_d5877 6 = .ok (.iadd, 1) := by decide +kernel
theorem dJx4a65c_grow_d5877_7 : decode cJx4a65c_grow_d5877 7 = .ok (.invokevirtual 69, 3) := by decide +kernel
theorem dJx4a65c_grow_d5877_10 : decode cJx4a65c_grow_d5877 10 = .ok (.areturn, 1) := by decide +kernel
theorem dJx4a65c_size_8abf5_0 : decode cJx4a65c_size_8abf5 0 = .ok (.aload_n 0, 1) := by decide +kernel
theorem dJx4a65c_size_8abf5_1 : decode cJx4a65c_size_8abf5 1 = .ok (.getfield 48, 3) := by decide +kernel
theorem dJx4a65c_size_8abf5_4 : decode cJx4a65c_size_8abf5 4 = .ok (.ireturn, 1) := by decide +kernel
theorem dJx4a65c_isEmpty_aae02_0 : decode cJx4a65c_isEmpty_aae02 0 = .ok (.aload_n 0, 1) := by decide +kernel
theorem dJx4a65c_isEmpty_aae02_1 : decode cJx4a65c_isEmpty_aae02 1 = .ok (.getfield 48, 3) := by decide +kernel
theorem dJx4a65c_isEmpty_aae02_4 : decode cJx4a65c_isEmpty_aae02 4 = .ok (.ifCond .ne 7, 3) := by decide +kernel
theorem dJx4a65c_isEmpty_aae02_7 : decode cJx4a65c_isEmpty_aae02 7 = .ok (.iconst 1, 1) := by decide +kernel
theorem dJx4a65c_isEmpty_aae02_8 : decode cJx4a65c_isEmpty_aae02 8 = .ok (.goto 4, 3) := by decide +kernel
theorem dJx4a65c_isEmpty_aae02_11 : decode cJx4a65c_isEmpty_aae02 11 = .ok (.iconst 0, 1) := by decide +kernel
theorem dJx4a65c_isEmpty_aae02_12 : decode cJx4a65c_isEmpty_aae02 12 = .ok (.ireturn, 1) := by decide +kernel
theorem dJx4a65c_elementData_915e3_0 : decode cJx4a65c_elementData_915e3 0 = .ok (.aload_n 0, 1) := by decide +kernel
theorem dJx4a65c_elementData_915e3_1 : decode cJx4a65c_elementData_915e3 1 = .ok (.getfield 9, 3) := by decide +kernel
theorem dJx4a65c_elementData_915e3_4 : decode cJx4a65c_elementData_915e3 4 = .ok (.iload_n 1, 1) := by decide +kernel
theorem dJx4a65c_elementData_915e3_5 : decode cJx4a65c_elementData_915e3 5 = .ok (.aaload, 1) := by decide +kernel
theorem dJx4a65c_elementData_915e3_6 : decode cJx4a65c_elementData_915e3 6 = .ok (.areturn, 1) := by decide +kernel
theorem dJx4a65c_get_915e3_0 : decode cJx4a65c_get_915e3 0 = .ok (.iload_n 1, 1) := by decide +kernel
theorem dJx4a65c_get_915e3_1 : decode cJx4a65c_get_915e3 1 = .ok (.aload_n 0, 1) := by decide +kernel
theorem dJx4a65c_get_915e3_2 : decode cJx4a65c_get_915e3 2 = .ok (.getfield 48, 3) := by decide +kernel
theorem dJx4a65c_get_915e3_5 : decode cJx4a65c_get_915e3 5 = .ok (.invokestatic 118, 3) := by decide +kernel
theorem dJx4a65c_get_915e3_8 : decode cJx4a65c_get_915e3 8 = .ok (.pop, 1) := by decide +kernel
theorem dJx4a65c_get_915e3_9 : decode cJx4a65c_get_915e3 9 = .ok (.aload_n 0, 1) := by decide +kernel
theorem dJx4a65c_get_915e3_10 : decode cJx4a65c_get_915e3 10 = .ok (.iload_n 1, 1) := by decide +kernel
theorem dJx4a65c_get_915e3_11 : decode cJx4a65c_get_915e3 11 = .ok (.invokevirtual 123, 3) := by decide +kernel
theorem dJx4a65c_get_915e3_14 : decode cJx4a65c_get_915e3 14 = .ok (.areturn, 1) := by decide +kernel
theorem dJx4a65c_add_72be8_0 : decode cJx4a65c_add_72be8 0 = .ok (.iload_n 3, 1) := by decide +kernel
theorem dJx4a65c_add_72be8_1 : decode cJx4a65c_add_72be8 1 = .ok (.aload_n 2, 1) := by decide +kernel
theorem dJx4a65c_add_72be8_2 : decode cJx4a65c_add_72be8 2 = .ok (.arraylength, 1) := by decide +kernel
theorem dJx4a65c_add_72be8_3 : decode cJx4a65c_add_72be8 3 = .ok (.if_icmp .ne 8, 3) := by decide +kernel
theorem dJx4a65c_add_72be8_6 : decode cJx4a65c_add_72be8 6 = .ok (.aload_n 0, 1) := by decide +kernel
theorem dJx4a65c_add_72be8_7 : decode cJx4a65c_add_72be8 7 = .ok (.invokevirtual 129, 3) := by decide +kernel
theorem dJx4a65c_add_72be8_10 : decode cJx4a65c_add_72be8 10 = .ok (.astore_n 2, 1) := by decide +kernel
theorem dJx4a65c_add_72be8_11 : decode cJx4a65c_add_72be8 11 = .ok (.aload_n 2, 1) := by decide +kernel
theorem dJx4a65c_add_72be8_12 : decode cJx4a65c_add_72be8 12 = .ok (.iload_n 3, 1) := by decide +kernel
theorem dJx4a65c_add_72be8_13 : decode cJx4a65c_add_72be8 13 = .ok (.aload_n 1, 1) := by decide +kernel
theorem dJx4a65c_add_72be8_14 : decode cJx4a65c_add_72be8 14 = .ok (.aastore, 1) := by decide +kernel
theorem dJx4a65c_add_72be8_15 : decode cJx4a65c_add_72be8 15 = .ok (.aload_n 0, 1) := by decide +kernel
theorem dJx4a65c_add_72be8_16 : decode cJx4a65c_add_72be8 16 = .ok (.iload_n 3, 1) := by decide +kernel
theorem dJx4a65c_add_72be8_17 : decode cJx4a65c_add_72be8 17 = .ok (.iconst 1, 1) := by decide +kernel
theorem dJx4a65c_add_72be8_18 : decode cJx4a65c_add_72be8 18 = .ok (.iadd, 1) := by decide +kernel
theorem dJx4a65c_add_72be8_19 : decode cJx4a65c_add_72be8 19 = .ok (.putfield 48, 3) := by decide +kernel
theorem dJx4a65c_add_72be8_22 : decode cJx4a65c_add_72be8 22 = .ok (.return_, 1) := by decide +kernel
theorem dJx4a65c_add_9ea2d_0 : decode cJx4a65c_add_9ea2d 0 = .ok (.aload_n 0, 1) := by decide +kernel
theorem dJx4a65c_add_9ea2d_1 : decode cJx4a65c_add_9ea2d 1 = .ok (.dup, 1) := by decide +kernel
theorem dJx4a65c_add_9ea2d_2 : decode cJx4a65c_add_9ea2d 2 = .ok (.getfield 63, 3) := by decide +kernel
theorem dJx4a65c_add_9ea2d_5 : decode cJx4a65c_add_9ea2d 5 = .ok (.iconst 1, 1) := by decide +kernel
theorem dJx4a65c_add_9ea2d_6 : decode cJx4a65c_add_9ea2d 6 = .ok (.iadd, 1) := by decide +kernel
theorem dJx4a65c_add_9ea2d_7 : decode cJx4a65c_add_9ea2d 7 = .ok (.putfield 63, 3) := by decide +kernel
theorem dJx4a65c_add_9ea2d_10 : decode cJx4a65c_add_9ea2d 10 = .ok (.aload_n 0, 1) := by decide +kernel
theorem dJx4a65c_add_9ea2d_11 : decode cJx4a65c_add_9ea2d 11 = .ok (.aload_n 1, 1) := by decide +kernel
theorem dJx4a65c_add_9ea2d_12 : decode cJx4a65c_add_9ea2d 12 = .ok (.aload_n 0, 1) := by decide +kernel
theorem dJx4a65c_add_9ea2d_13 : decode cJx4a65c_add_9ea2d 13 = .ok (.getfield 9, 3) := by decide +kernel
theorem dJx4a65c_add_9ea2d_16 : decode cJx4a65c_add_9ea2d 16 = .ok (.aload_n 0, 1) := by decide +kernel
theorem dJx4a65c_add_9ea2d_17 : decode cJx4a65c_add_9ea2d 17 = .ok (.getfield 48, 3) := by decide +kernel
theorem dJx4a65c_add_9ea2d_20 : decode cJx4a65c_add_9ea2d 20 = .ok (.invokevirtual 131, 3) := by decide +kernel
theorem dJx4a65c_add_9ea2d_23 : decode cJx4a65c_add_9ea2d 23 = .ok (.iconst 1, 1) := by decide +kernel
theorem dJx4a65c_add_9ea2d_24 : decode cJx4a65c_add_9ea2d 24 = .ok (.ireturn, 1) := by decide +kernel
theorem dJx4a65c_remove_915e3_0 : decode cJx4a65c_remove_915e3 0 = .ok (.iload_n 1, 1) := by decide +kernel
theorem dJx4a65c_remove_915e3_1 : decode cJx4a65c_remove_915e3 1 = .ok (.aload_n 0, 1) := by decide +kernel
theorem dJx4a65c_remove_915e3_2 : decode cJx4a65c_remove_915e3 2 = .ok (.getfield 48, 3) := by decide +kernel
theorem dJx4a65c_remove_915e3_5 : decode cJx4a65c_remove_915e3 5 = .ok (.invokestatic 118, 3) := by decide +kernel
theorem dJx4a65c_remove_915e3_8 : decode cJx4a65c_remove_915e3 8 = .ok (.pop, 1) := by decide +kernel
theorem dJx4a65c_remove_915e3_9 : decode cJx4a65c_remove_915e3 9 = .ok (.aload_n 0, 1) := by decide +kernel
theorem dJx4a65c_remove_915e3_10 : decode cJx4a65c_remove_915e3 10 = .ok (.getfield 9, 3) := by decide +kernel
theorem dJx4a65c_remove_915e3_13 : decode cJx4a65c_remove_915e3 13 = .ok (.astore_n 2, 1) := by decide +kernel
theorem dJx4a65c_remove_915e3_14 : decode cJx4a65c_remove_915e3 14 = .ok (.aload_n 2, 1) := by decide +kernel
theorem dJx4a65c_remove_915e3_15 : decode cJx4a65c_remove_915e3 15 = .ok (.iload_n 1, 1) := by decide +kernel
theorem dJx4a65c_remove_915e3_16 : decode cJx4a65c_remove_915e3 16 = .ok (.aaload, 1) := by decide +kernel
theorem dJx4a65c_remove_915e3_17 : decode cJx4a65c_remove_915e3 17 = .ok (.astore_n 3, 1) := by decide +kernel
theorem dJx4a65c_remove_915e3_18 : decode cJx4a65c_remove_915e3 18 = .ok (.aload_n 0, 1) := by decide +kernel
theorem dJx4a65c_remove_915e3_19 : decode cJx4a65c_remove_915e3 19 = .ok (.aload_n 2, 1) := by decide +kernel
theorem dJx4a65c_remove_915e3_20 : decode cJx4a65c_remove_915e3 20 = .ok (.iload_n 1, 1) := by decide +kernel
theorem dJx4a65c_remove_915e3_21 : decode cJx4a65c_remove_915e3 21 = .ok (.invokevirtual 144, 3) := by decide +kernel
theorem dJx4a65c_remove_915e3_24 : decode cJx4a65c_remove_915e3 24 = .ok (.aload_n 3, 1) := by decide +kernel
theorem dJx4a65c_remove_915e3_25 : decode cJx4a65c_remove_915e3 25 = .ok (.areturn, 1) := by decide +kernel
theorem dJx4a65c_fastRemove_b59b0_0 : decode cJx4a65c_fastRemove_b59b0 0 = .ok (.aload_n 0, 1) := by decide +kernel
theorem dJx4a65c_fastRemove_b59b0_1 : decode cJx4a65c_fastRemove_b59b0 1 = .ok (.dup, 1) := by decide +kernel
theorem dJx4a65c_fastRemove_b59b0_2 : decode cJx4a65c_fastRemove_b59b0 2 = .ok (.getfield 63, 3) := by decide +kernel
theorem dJx4a65c_fastRemove_b59b0_5 : decode cJx4a65c_fastRemove_b59b0 5 = .ok (.iconst 1, 1) := by decide +kernel
theorem dJx4a65c_fastRemove_b59b0_6 : decode cJx4a65c_fastRemove_b59b0 6 = .ok (.iadd, 1) := by decide +kernel
theorem dJx4a65c_fastRemove_b59b0_7 : decode cJx4a65c_fastRemove_b59b0 7 = .ok (.putfield 63, 3) := by decide +kernel
theorem dJx4a65c_fastRemove_b59b0_10 : decode cJx4a65c_fastRemove_b59b0 10 = .ok (.aload_n 0, 1) := by decide +kernel
theorem dJx4a65c_fastRemove_b59b0_11 : decode cJx4a65c_fastRemove_b59b0 11 = .ok (.getfield 48, 3) := by decide +kernel
theorem dJx4a65c_fastRemove_b59b0_14 : decode cJx4a65c_fastRemove_b59b0 14 = .ok (.iconst 1, 1) := by decide +kernel
theorem dJx4a65c_fastRemove_b59b0_15 : decode cJx4a65c_fastRemove_b59b0 15 = .ok (.isub, 1) := by decide +kernel
theorem dJx4a65c_fastRemove_b59b0_16 : decode cJx4a65c_fastRemove_b59b0 16 = .ok (.dup, 1) := by decide +kernel
theorem dJx4a65c_fastRemove_b59b0_17 : decode cJx4a65c_fastRemove_b59b0 17 = .ok (.istore_n 3, 1) := by decide +kernel
theorem dJx4a65c_fastRemove_b59b0_18 : decode cJx4a65c_fastRemove_b59b0 18 = .ok (.iload_n 2, 1) := by decide +kernel
theorem dJx4a65c_fastRemove_b59b0_19 : decode cJx4a65c_fastRemove_b59b0 19 = .ok (.if_icmp .le 15, 3) := by decide +kernel
theorem dJx4a65c_fastRemove_b59b0_22 : decode cJx4a65c_fastRemove_b59b0 22 = .ok (.aload_n 1, 1) := by decide +kernel
theorem dJx4a65c_fastRemove_b59b0_23 : decode cJx4a65c_fastRemove_b59b0 23 = .ok (.iload_n 2, 1) := by decide +kernel
theorem dJx4a65c_fastRemove_b59b0_24 : decode cJx4a65c_fastRemove_b59b0 24 = .ok (.iconst 1, 1) := by decide +kernel
theorem dJx4a65c_fastRemove_b59b0_25 : decode cJx4a65c_fastRemove_b59b0 25 = .ok (.iadd, 1) := by decide +kernel
theorem dJx4a65c_fastRemove_b59b0_26 : decode cJx4a65c_fastRemove_b59b0 26 = .ok (.aload_n 1, 1) := by decide +kernel
theorem dJx4a65c_fastRemove_b59b0_27 : decode cJx4a65c_fastRemove_b59b0 27 = .ok (.iload_n 2, 1) := by decide +kernel
theorem dJx4a65c_fastRemove_b59b0_28 : decode cJx4a65c_fastRemove_b59b0 28 = .ok (.iload_n 3, 1) := by decide +kernel
theorem dJx4a65c_fastRemove_b59b0_29 : decode cJx4a65c_fastRemove_b59b0 29 = .ok (.iload_n 2, 1) := by decide +kernel
theorem dJx4a65c_fastRemove_b59b0_30 : decode cJx4a65c_fastRemove_b59b0 30 = .ok (.isub, 1) := by decide +kernel
theorem dJx4a65c_fastRemove_b59b0_31 : decode cJx4a65c_fastRemove_b59b0 31 = .ok (.invokestatic 112, 3) := by decide +kernel
theorem dJx4a65c_fastRemove_b59b0_34 : decode cJx4a65c_fastRemove_b59b0 34 = .ok (.aload_n 1, 1) := by decide +kernel
theorem dJx4a65c_fastRemove_b59b0_35 : decode cJx4a65c_fastRemove_b59b0 35 = .ok (.aload_n 0, 1) := by decide +kernel
theorem dJx4a65c_fastRemove_b59b0_36 : decode cJx4a65c_fastRemove_b59b0 36 = .ok (.iload_n 3, 1) := by decide +kernel
theorem dJx4a65c_fastRemove_b59b0_37 : decode cJx4a65c_fastRemove_b59b0 37 = .ok (.dup_x1, 1) := by decide +kernel
theorem dJx4a65c_fastRemove_b59b0_38 : decode cJx4a65c_fastRemove_b59b0 38 = .ok (.putfield 48, 3) := by decide +kernel
theorem dJx4a65c_fastRemove_b59b0_41 : decode cJx4a65c_fastRemove_b59b0 41 = .ok (.aconst_null, 1) := by decide +kernel
theorem dJx4a65c_fastRemove_b59b0_42 : decode cJx4a65c_fastRemove_b59b0 42 = .ok (.aastore, 1) := by decide +kernel
theorem dJx4a65c_fastRemove_b59b0_43 : decode cJx4a65c_fastRemove_b59b0 43 = .ok (.return_, 1) := by decide +kernel
theorem dJx4a65c_clear_da8c8_0 : decode cJx4a65c_clear_da8c8 0 = .ok (.aload_n 0, 1) := by decide +kernel
theorem dJx4a65c_clear_da8c8_1 : decode cJx4a65c_clear_da8c8 1 = .ok (.dup, 1) := by decide +kernel
theorem dJx4a65c_clear_da8c8_2 : decode cJx4a65c_clear_da8c8 2 = .ok (.getfield 63, 3) := by decide +kernel
theorem dJx4a65c_clear_da8c8_5 : decode cJx4a65c_clear_da8c8 5 = .ok (.iconst 1, 1) := by decide +kernel
theorem dJx4a65c_clear_da8c8_6 : decode cJx4a65c_clear_da8c8 6 = .ok (.iadd, 1) := by decide +kernel
theorem dJx4a65c_clear_da8c8_7 : decode cJx4a65c_clear_da8c8 7 = .ok (.putfield 63, 3) := by decide +kernel
theorem dJx4a65c_clear_da8c8_10 : decode cJx4a65c_clear_da8c8 10 = .ok (.aload_n 0, 1) := by decide +kernel
theorem dJx4a65c_clear_da8c8_11 : decode cJx4a65c_clear_da8c8 11 = .ok (.getfield 9, 3) := by decide +kernel
theorem dJx4a65c_clear_da8c8_14 : decode cJx4a65c_clear_da8c8 14 = .ok (.astore_n 1, 1) := by decide +kernel
theorem dJx4a65c_clear_da8c8_15 : decode cJx4a65c_clear_da8c8 15 = .ok (.aload_n 0, 1) := by decide +kernel
theorem dJx4a65c_clear_da8c8_16 : decode cJx4a65c_clear_da8c8 16 = .ok (.getfield 48, 3) := by decide +kernel
theorem dJx4a65c_clear_da8c8_19 : decode cJx4a65c_clear_da8c8 19 = .ok (.istore_n 2, 1) := by decide +kernel
theorem dJx4a65c_clear_da8c8_20 : decode cJx4a65c_clear_da8c8 20 = .ok (.aload_n 0, 1) := by decide +kernel
theorem dJx4a65c_clear_da8c8_21 : decode cJx4a65c_clear_da8c8 21 = .ok (.iconst 0, 1) := by decide +kernel
theorem dJx4a65c_clear_da8c8_22 : decode cJx4a65c_clear_da8c8 22 = .ok (.dup_x1, 1) := by decide +kernel
theorem dJx4a65c_clear_da8c8_23 : decode cJx4a65c_clear_da8c8 23 = .ok (.putfield 48, 3) := by decide +kernel
theorem dJx4a65c_clear_da8c8_26 : decode cJx4a65c_clear_da8c8 26 = .ok (.istore_n 3, 1) := by decide +kernel
theorem dJx4a65c_clear_da8c8_27 : decode cJx4a65c_clear_da8c8 27 = .ok (.iload_n 3, 1) := by decide +kernel
theorem dJx4a65c_clear_da8c8_28 : decode cJx4a65c_clear_da8c8 28 = .ok (.iload_n 2, 1) := by decide +kernel
theorem dJx4a65c_clear_da8c8_29 : decode cJx4a65c_clear_da8c8 29 = .ok (.if_icmp .ge 13, 3) := by decide +kernel
theorem dJx4a65c_clear_da8c8_32 : decode cJx4a65c_clear_da8c8 32 = .ok (.aload_n 1, 1) := by decide +kernel
theorem dJx4a65c_clear_da8c8_33 : decode cJx4a65c_clear_da8c8 33 = .ok (.iload_n 3, 1) := by decide +kernel
theorem dJx4a65c_clear_da8c8_34 : decode cJx4a65c_clear_da8c8 34 = .ok (.aconst_null, 1) := by decide +kernel
theorem dJx4a65c_clear_da8c8_35 : decode cJx4a65c_clear_da8c8 35 = .ok (.aastore, 1) := by decide +kernel
theorem dJx4a65c_clear_da8c8_36 : decode cJx4a65c_clear_da8c8 36 = .ok (.iinc 3 1, 3) := by decide +kernel
theorem dJx4a65c_clear_da8c8_39 : decode cJx4a65c_clear_da8c8 39 = .ok (.goto (-12), 3) := by decide +kernel
theorem dJx4a65c_clear_da8c8_42 : decode cJx4a65c_clear_da8c8 42 = .ok (.return_, 1) := by decide +kernel
theorem dJ7_copyOf_1904c_0 : decode cJ7_copyOf_1904c 0 = .ok (.aload_n 0, 1) := by decide +kernel
theorem dJ7_copyOf_1904c_1 : decode cJ7_copyOf_1904c 1 = .ok (.iload_n 1, 1) := by decide +kernel
theorem dJ7_copyOf_1904c_2 : decode cJ7_copyOf_1904c 2 = .ok (.aload_n 0, 1) := by decide +kernel
theorem dJ7_copyOf_1904c_3 : decode cJ7_copyOf_1904c 3 = .ok (.invokevirtual 86, 3) := by decide +kernel
theorem dJ7_copyOf_1904c_6 : decode cJ7_copyOf_1904c 6 = .ok (.invokestatic 300, 3) := by decide +kernel
theorem dJ7_copyOf_1904c_9 : decode cJ7_copyOf_1904c 9 = .ok (.areturn, 1) := by decide +kernel
theorem dJ7_copyOf_6403c_0 : decode cJ7_copyOf_6403c 0 = .ok (.aload_n 2, 1) := by decide +kernel
theorem dJ7_copyOf_6403c_1 : decode cJ7_copyOf_6403c 1 = .ok (.ldc 110, 2) := by decide +kernel
theorem dJ7_copyOf_6403c_3 : decode cJ7_copyOf_6403c 3 = .ok (.if_acmp .ne 10, 3) := by decide +kernel
theorem dJ7_copyOf_6403c_6 : decode cJ7_copyOf_6403c 6 = .ok (.iload_n 1, 1) := by decide +kernel
theorem dJ7_copyOf_6403c_7 : decode cJ7_copyOf_6403c 7 = .ok (.anewarray 2, 3) := by decide +kernel
theorem dJ7_copyOf_6403c_10 : decode cJ7_copyOf_6403c 10 = .ok (.goto 14, 3) := by decide +kernel
theorem dJ7_copyOf_6403c_13 : decode cJ7_copyOf_6403c 13 = .ok (.aload_n 2, 1) := by decide +kernel
theorem dJ7_copyOf_6403c_14 : decode cJ7_copyOf_6403c 14 = .ok (.invokevirtual 90, 3) := by decide +kernel
theorem dJ7_copyOf_6403c_17 : decode cJ7_copyOf_6403c 17 = .ok (.iload_n 1, 1) := by decide +kernel
theorem dJ7_copyOf_6403c_18 : decode cJ7_copyOf_6403c 18 = .ok (.invokestatic 95, 3) := by decide +kernel
theorem dJ7_copyOf_6403c_21 : decode cJ7_copyOf_6403c 21 = .ok (.checkcast 110, 3) := by decide +kernel
theorem dJ7_copyOf_6403c_24 : decode cJ7_copyOf_6403c 24 = .ok (.astore_n 3, 1) := by decide +kernel
theorem dJ7_copyOf_6403c_25 : decode cJ7_copyOf_6403c 25 = .ok (.aload_n 0, 1) := by decide +kernel
theorem dJ7_copyOf_6403c_26 : decode cJ7_copyOf_6403c 26 = .ok (.iconst 0, 1) := by decide +kernel
theorem dJ7_copyOf_6403c_27 : decode cJ7_copyOf_6403c 27 = .ok (.aload_n 3, 1) := by decide +kernel
theorem dJ7_copyOf_6403c_28 : decode cJ7_copyOf_6403c 28 = .ok (.iconst 0, 1) := by decide +kernel
theorem dJ7_copyOf_6403c_29 : decode cJ7_copyOf_6403c 29 = .ok (.aload_n 0, 1) := by decide +kernel
theorem dJ7_copyOf_6403c_30 : decode cJ7_copyOf_6403c 30 = .ok (.arraylength, 1) := by decide +kernel
theorem dJ7_copyOf_6403c_31 : decode cJ7_copyOf_6403c 31 = .ok (.iload_n 1, 1) := by decide +kernel
theorem dJ7_copyOf_6403c_32 : decode cJ7_copyOf_6403c 32 = .ok (.invokestatic 304, 3) := by decide +kernel
theorem dJ7_copyOf_6403c_35 : decode cJ7_copyOf_6403c 35 = .ok (.invokestatic 150, 3) := by decide +kernel
theorem dJ7_copyOf_6403c_38 : decode cJ7_copyOf_6403c 38 = .ok (.aload_n 3, 1) := by decide +kernel
theorem dJ7_copyOf_6403c_39 : decode cJ7_copyOf_6403c 39 = .ok (.areturn, 1) := by decide +kernel
theorem dJ15_checkIndex_7cf53_0 : decode cJ15_checkIndex_7cf53 0 = .ok (.iload_n 0, 1) := by decide +kernel
theorem dJ15_checkIndex_7cf53_1 : decode cJ15_checkIndex_7cf53 1 = .ok (.iload_n 1, 1) := by decide +kernel
theorem dJ15_checkIndex_7cf53_2 : decode cJ15_checkIndex_7cf53 2 = .ok (.aconst_null, 1) := by decide +kernel
theorem dJ15_checkIndex_7cf53_3 : decode cJ15_checkIndex_7cf53 3 = .ok (.invokestatic 105, 3) := by decide +kernel
theorem dJ15_checkIndex_7cf53_6 : decode cJ15_checkIndex_7cf53 6 = .ok (.ireturn, 1) := by decide +kernel
theorem dJ8_newLength_cabcc_0 : decode cJ8_newLength_cabcc 0 = .ok (.iload_n 0, 1) := by decide +kernel
theorem dJ8_newLength_cabcc_1 : decode cJ8_newLength_cabcc 1 = .ok (.iload_n 1, 1) := by decide +kernel
theorem dJ8_newLength_cabcc_2 : decode cJ8_newLength_cabcc 2 = .ok (.iload_n 2, 1) := by decide +kernel
theorem dJ8_newLength_cabcc_3 : decode cJ8_newLength_cabcc 3 = .ok (.invokestatic 194, 3) := by decide +kernel
theorem dJ8_newLength_cabcc_6 : decode cJ8_newLength_cabcc 6 = .ok (.iadd, 1) := by decide +kernel
theorem dJ8_newLength_cabcc_7 : decode cJ8_newLength_cabcc 7 = .ok (.istore_n 3, 1) := by decide +kernel
theorem dJ8_newLength_cabcc_8 : decode cJ8_newLength_cabcc 8 = .ok (.iconst 0, 1) := by decide +kernel
theorem dJ8_newLength_cabcc_9 : decode cJ8_newLength_cabcc 9 = .ok (.iload_n 3, 1) := by decide +kernel
theorem dJ8_newLength_cabcc_10 : decode cJ8_newLength_cabcc 10 = .ok (.if_icmp .ge 11, 3) := by decide +kernel
theorem dJ8_newLength_cabcc_13 : decode cJ8_newLength_cabcc 13 = .ok (.iload_n 3, 1) := by decide +kernel
theorem dJ8_newLength_cabcc_14 : decode cJ8_newLength_cabcc 14 = .ok (.ldc 200, 2) := by decide +kernel
theorem dJ8_newLength_cabcc_16 : decode cJ8_newLength_cabcc 16 = .ok (.if_icmp .gt 5, 3) := by decide +kernel
theorem dJ8_newLength_cabcc_19 : decode cJ8_newLength_cabcc 19 = .ok (.iload_n 3, 1) := by decide +kernel
theorem dJ8_newLength_cabcc_20 : decode cJ8_newLength_cabcc 20 = .ok (.ireturn, 1) := by decide +kernel
theorem dJ8_newLength_cabcc_21 : decode cJ8_newLength_cabcc 21 = .ok (.iload_n 0, 1) := by decide +kernel
theorem dJ8_newLength_cabcc_22 : decode cJ8_newLength_cabcc 22 = .ok (.iload_n 1, 1) := by decide +kernel
theorem dJ8_newLength_cabcc_23 : decode cJ8_newLength_cabcc 23 = .ok (.invokestatic 201, 3) := by decide +kernel
theorem dJ8_newLength_cabcc_26 : decode cJ8_newLength_cabcc 26 = .ok (.ireturn, 1) := by decide +kernel
theorem dJ8_hugeLength_7cf53_0 : decode cJ8_hugeLength_7cf53 0 = .ok (.iload_n 0, 1) := by decide +kernel
theorem dJ8_hugeLength_7cf53_1 : decode cJ8_hugeLength_7cf53 1 = .ok (.iload_n 1, 1) := by decide +kernel
theorem dJ8_hugeLength_7cf53_2 : decode cJ8_hugeLength_7cf53 2 = .ok (.iadd, 1) := by decide +kernel
theorem dJ8_hugeLength_7cf53_3 : decode cJ8_hugeLength_7cf53 3 = .ok (.istore_n 2, 1) := by decide +kernel
theorem dJ8_hugeLength_7cf53_4 : decode cJ8_hugeLength_7cf53 4 = .ok (.iload_n 2, 1) := by decide +kernel
theorem dJ8_hugeLength_7cf53_5 : decode cJ8_hugeLength_7cf53 5 = .ok (.ifCond .ge 44, 3) := by decide +kernel
theorem dJ8_hugeLength_7cf53_8 : decode cJ8_hugeLength_7cf53 8 = .ok (.new 204, 3) := by decide +kernel
theorem dJ8_hugeLength_7cf53_11 : decode cJ8_hugeLength_7cf53 11 = .ok (.dup, 1) := by decide +kernel
theorem dJ8_hugeLength_7cf53_12 : decode cJ8_hugeLength_7cf53 12 = .ok (.new 89, 3) := by decide +kernel
theorem dJ8_hugeLength_7cf53_15 : decode cJ8_hugeLength_7cf53 15 = .ok (.dup, 1) := by decide +kernel
theorem dJ8_hugeLength_7cf53_16 : decode cJ8_hugeLength_7cf53 16 = .ok (.invokespecial 91, 3) := by decide +kernel
theorem dJ8_hugeLength_7cf53_19 : decode cJ8_hugeLength_7cf53 19 = .ok (.ldc 206, 2) := by decide +kernel
theorem dJ8_hugeLength_7cf53_21 : decode cJ8_hugeLength_7cf53 21 = .ok (.invokevirtual 94, 3) := by decide +kernel
theorem dJ8_hugeLength_7cf53_24 : decode cJ8_hugeLength_7cf53 24 = .ok (.iload_n 0, 1) := by decide +kernel
theorem dJ8_hugeLength_7cf53_25 : decode cJ8_hugeLength_7cf53 25 = .ok (.invokevirtual 98, 3) := by decide +kernel
theorem dJ8_hugeLength_7cf53_28 : decode cJ8_hugeLength_7cf53 28 = .ok (.ldc 208, 2) := by decide +kernel
theorem dJ8_hugeLength_7cf53_30 : decode cJ8_hugeLength_7cf53 30 = .ok (.invokevirtual 94, 3) := by decide +kernel
theorem dJ8_hugeLength_7cf53_33 : decode cJ8_hugeLength_7cf53 33 = .ok (.iload_n 1, 1) := by decide +kernel
theorem dJ8_hugeLength_7cf53_34 : decode cJ8_hugeLength_7cf53 34 = .ok (.invokevirtual 98, 3) := by decide +kernel
theorem dJ8_hugeLength_7cf53_37 : decode cJ8_hugeLength_7cf53 37 = .ok (.ldc 210, 2) := by decide +kernel
theorem dJ8_hugeLength_7cf53_39 : decode cJ8_hugeLength_7cf53 39 = .ok (.invokevirtual 94, 3) := by decide +kernel
theorem dJ8_hugeLength_7cf53_42 : decode cJ8_hugeLength_7cf53 42 = .ok (.invokevirtual 101, 3) := by decide +kernel
theorem dJ8_hugeLength_7cf53_45 : decode cJ8_hugeLength_7cf53 45 = .ok (.invokespecial 212, 3) := by decide +kernel
theorem dJ8_hugeLength_7cf53_48 : decode cJ8_hugeLength_7cf53 48 = .ok (.athrow, 1) := by decide +kernel
theorem dJ8_hugeLength_7cf53_49 : decode cJ8_hugeLength_7cf53 49 = .ok (.iload_n 2, 1) := by decide +kernel
theorem dJ8_hugeLength_7cf53_50 : decode cJ8_hugeLength_7cf53 50 = .ok (.ldc 200, 2) := by decide +kernel
theorem dJ8_hugeLength_7cf53_52 : decode cJ8_hugeLength_7cf53 52 = .ok (.if_icmp .gt 6, 3) := by decide +kernel
theorem dJ8_hugeLength_7cf53_55 : decode cJ8_hugeLength_7cf53 55 = .ok (.ldc 200, 2) := by decide +kernel
theorem dJ8_hugeLength_7cf53_57 : decode cJ8_hugeLength_7cf53 57 = .ok (.ireturn, 1) := by decide +kernel
theorem dJ8_hugeLength_7cf53_58 : decode cJ8_hugeLength_7cf53 58 = .ok (.iload_n 2, 1) := by decide +kernel
theorem dJ8_hugeLength_7cf53_59 : decode cJ8_hugeLength_7cf53 59 = .ok (.ireturn, 1) := by decide +kernel
theorem dJ3_checkIndex_8e157_0 : decode cJ3_checkIndex_8e157 0 = .ok (.iload_n 0, 1) := by decide +kernel
theorem dJ3_checkIndex_8e157_1 : decode cJ3_checkIndex_8e157 1 = .ok (.ifCond .lt 8, 3) := by decide +kernel
theorem dJ3_checkIndex_8e157_4 : decode cJ3_checkIndex_8e157 4 = .ok (.iload_n 0, 1) := by decide +kernel
theorem dJ3_checkIndex_8e157_5 : decode cJ3_checkIndex_8e157 5 = .ok (.iload_n 1, 1) := by decide +kernel
theorem dJ3_checkIndex_8e157_6 : decode cJ3_checkIndex_8e157 6 = .ok (.if_icmp .lt 10, 3) := by decide +kernel
theorem dJ3_checkIndex_8e157_9 : decode cJ3_checkIndex_8e157 9 = .ok (.aload_n 2, 1) := by decide +kernel
theorem dJ3_checkIndex_8e157_10 : decode cJ3_checkIndex_8e157 10 = .ok (.iload_n 0, 1) := by decide +kernel
theorem dJ3_checkIndex_8e157_11 : decode cJ3_checkIndex_8e157 11 = .ok (.iload_n 1, 1) := by decide +kernel
theorem dJ3_checkIndex_8e157_12 : decode cJ3_checkIndex_8e157 12 = .ok (.invokestatic 95, 3) := by decide +kernel
theorem dJ3_checkIndex_8e157_15 : decode cJ3_checkIndex_8e157 15 = .ok (.athrow, 1) := by decide +kernel
theorem dJ3_checkIndex_8e157_16 : decode cJ3_checkIndex_8e157 16 = .ok (.iload_n 0, 1) := by decide +kernel
theorem dJ3_checkIndex_8e157_17 : decode cJ3_checkIndex_8e157 17 = .ok (.ireturn, 1) := by decide +kernel
theorem dL_node_0 : decode cL_node 0 = .ok (.aload_n 3, 1) := by decide +kernel
theorem dL_node_1 : decode cL_node 1 = .ok (.iconst 0, 1) := by decide +kernel
theorem dL_node_2 : decode cL_node 2 = .ok (.aload_n 0, 1) := by decide +kernel
theorem dL_node_3 : decode cL_node 3 = .ok (.iload_n 1, 1) := by decide +kernel
theorem dL_node_4 : decode cL_node 4 = .ok (.iload_n 2, 1) := by decide +kernel
theorem dL_node_5 : decode cL_node 5 = .ok (.invokevirtual 7, 3) := by decide +kernel
theorem dL_node_8 : decode cL_node 8 = .ok (.i2l, 1) := by decide +kernel
theorem dL_node_9 : decode cL_node 9 = .ok (.lastore, 1) := by decide +kernel
theorem dL_node_10 : decode cL_node 10 = .ok (.goto 11, 3) := by decide +kernel
theorem dL_node_13 : decode cL_node 13 = .ok (.astore 4, 2) := by decide +kernel
theorem dL_node_15 : decode cL_node 15 = .ok (.iconst 1, 1) := by decide +kernel
theorem dL_node_16 : decode cL_node 16 = .ok (.ireturn, 1) := by decide +kernel
theorem dL_node_17 : decode cL_node 17 = .ok (.astore 4, 2) := by decide +kernel
theorem dL_node_19 : decode cL_node 19 = .ok (.iconst 2, 1) := by decide +kernel
theorem dL_node_20 : decode cL_node 20 = .ok (.ireturn, 1) := by decide +kernel
theorem dL_node_21 : decode cL_node 21 = .ok (.iconst 0, 1) := by decide +kernel
theorem dL_node_22 : decode cL_node 22 = .ok (.ireturn, 1) := by decide +kernel
theorem dL_run_0 : decode cL_run 0 = .ok (.aload 4, 2) := by decide +kernel
theorem dL_run_2 : decode cL_run 2 = .ok (.iconst 0, 1) := by decide +kernel
theorem dL_run_3 : decode cL_run 3 = .ok (.aload_n 0, 1) := by decide +kernel
theorem dL_run_4 : decode cL_run 4 = .ok (.iload_n 1, 1) := by decide +kernel
theorem dL_run_5 : decode cL_run 5 = .ok (.lload_n 2, 1) := by decide +kernel
theorem dL_run_6 : decode cL_run 6 = .ok (.invokevirtual 17, 3) := by decide +kernel
theorem dL_run_9 : decode cL_run 9 = .ok (.i2l, 1) := by decide +kernel
theorem dL_run_10 : decode cL_run 10 = .ok (.lastore, 1) := by decide +kernel
theorem dL_run_11 : decode cL_run 11 = .ok (.goto 11, 3) := by decide +kernel
theorem dL_run_14 : decode cL_run 14 = .ok (.astore 5, 2) := by decide +kernel
theorem dL_run_16 : decode cL_run 16 = .ok (.iconst 1, 1) := by decide +kernel
theorem dL_run_17 : decode cL_run 17 = .ok (.ireturn, 1) := by decide +kernel
theorem dL_run_18 : decode cL_run 18 = .ok (.astore 5, 2) := by decide +kernel
theorem dL_run_20 : decode cL_run 20 = .ok (.iconst 2, 1) := by decide +kernel
theorem dL_run_21 : decode cL_run 21 = .ok (.ireturn, 1) := by decide +kernel
theorem dL_run_22 : decode cL_run 22 = .ok (.iconst 0, 1) := by decide +kernel
theorem dL_run_23 : decode cL_run 23 = .ok (.ireturn, 1) := by decide +kernel
theorem dL_result_0 : decode cL_result 0 = .ok (.aload_n 3, 1) := by decide +kernel
theorem dL_result_1 : decode cL_result 1 = .ok (.iconst 0, 1) := by decide +kernel
theorem dL_result_2 : decode cL_result 2 = .ok (.aload_n 0, 1) := by decide +kernel
theorem dL_result_3 : decode cL_result 3 = .ok (.iload_n 1, 1) := by decide +kernel
theorem dL_result_4 : decode cL_result 4 = .ok (.iload_n 2, 1) := by decide +kernel
theorem dL_result_5 : decode cL_result 5 = .ok (.invokevirtual 21, 3) := by decide +kernel
theorem dL_result_8 : decode cL_result 8 = .ok (.lastore, 1) := by decide +kernel
theorem dL_result_9 : decode cL_result 9 = .ok (.goto 7, 3) := by decide +kernel
theorem dL_result_12 : decode cL_result 12 = .ok (.astore 4, 2) := by decide +kernel
theorem dL_result_14 : decode cL_result 14 = .ok (.iconst 1, 1) := by decide +kernel
theorem dL_result_15 : decode cL_result 15 = .ok (.ireturn, 1) := by decide +kernel
theorem dL_result_16 : decode cL_result 16 = .ok (.iconst 0, 1) := by decide +kernel
theorem dL_result_17 : decode cL_result 17 = .ok (.ireturn, 1) := by decide +kernel
theorem dL_context_0 : decode cL_context 0 = .ok (.aload_n 3, 1) := by decide +kernel
theorem dL_context_1 : decode cL_context 1 = .ok (.iconst 0, 1) := by decide +kernel
theorem dL_context_2 : decode cL_context 2 = .ok (.aload_n 0, 1) := by decide +kernel
theorem dL_context_3 : decode cL_context 3 = .ok (.iload_n 1, 1) := by decide +kernel
theorem dL_context_4 : decode cL_context 4 = .ok (.iload_n 2, 1) := by decide +kernel
theorem dL_context_5 : decode cL_context 5 = .ok (.invokevirtual 27, 3) := by decide +kernel
theorem dL_context_8 : decode cL_context 8 = .ok (.i2l, 1) := by decide +kernel
theorem dL_context_9 : decode cL_context 9 = .ok (.lastore, 1) := by decide +kernel
theorem dL_context_10 : decode cL_context 10 = .ok (.goto 7, 3) := by decide +kernel
theorem dL_context_13 : decode cL_context 13 = .ok (.astore 4, 2) := by decide +kernel
theorem dL_context_15 : decode cL_context 15 = .ok (.iconst 1, 1) := by decide +kernel
theorem dL_context_16 : decode cL_context 16 = .ok (.ireturn, 1) := by decide +kernel
theorem dL_context_17 : decode cL_context 17 = .ok (.iconst 0, 1) := by decide +kernel
theorem dL_context_18 : decode cL_context 18 = .ok (.ireturn, 1) := by decide +kernel
theorem dL_cell_0 : decode cL_cell 0 = .ok (.aload 4, 2) := by decide +kernel
theorem dL_cell_2 : decode cL_cell 2 = .ok (.iconst 0, 1) := by decide +kernel
theorem dL_cell_3 : decode cL_cell 3 = .ok (.aload_n 0, 1) := by decide +kernel
theorem dL_cell_4 : decode cL_cell 4 = .ok (.iload_n 1, 1) := by decide +kernel
theorem dL_cell_5 : decode cL_cell 5 = .ok (.iload_n 2, 1) := by decide +kernel
theorem dL_cell_6 : decode cL_cell 6 = .ok (.iload_n 3, 1) := by decide +kernel
theorem dL_cell_7 : decode cL_cell 7 = .ok (.invokevirtual 30, 3) := by decide +kernel
theorem dL_cell_10 : decode cL_cell 10 = .ok (.lastore, 1) := by decide +kernel
theorem dL_cell_11 : decode cL_cell 11 = .ok (.goto 7, 3) := by decide +kernel
theorem dL_cell_14 : decode cL_cell 14 = .ok (.astore 5, 2) := by decide +kernel
theorem dL_cell_16 : decode cL_cell 16 = .ok (.iconst 1, 1) := by decide +kernel
theorem dL_cell_17 : decode cL_cell 17 = .ok (.ireturn, 1) := by decide +kernel
theorem dL_cell_18 : decode cL_cell 18 = .ok (.iconst 0, 1) := by decide +kernel
theorem dL_cell_19 : decode cL_cell 19 = .ok (.ireturn, 1) := by decide +kernel
theorem dL_law_0 : decode cL_law 0 = .ok (.new 8, 3) := by decide +kernel
theorem dL_law_3 : decode cL_law 3 = .ok (.dup, 1) := by decide +kernel
theorem dL_law_4 : decode cL_law 4 = .ok (.invokespecial 34, 3) := by decide +kernel
theorem dL_law_7 : decode cL_law 7 = .ok (.astore_n 1, 1) := by decide +kernel
theorem dL_law_8 : decode cL_law 8 = .ok (.new 35, 3) := by decide +kernel
theorem dL_law_11 : decode cL_law 11 = .ok (.dup, 1) := by decide +kernel
theorem dL_law_12 : decode cL_law 12 = .ok (.invokespecial 37, 3) := by decide +kernel
theorem dL_law_15 : decode cL_law 15 = .ok (.astore_n 2, 1) := by decide +kernel
theorem dL_law_16 : decode cL_law 16 = .ok (.iconst 1, 1) := by decide +kernel
theorem dL_law_17 : decode cL_law 17 = .ok (.newarray .long, 2) := by decide +kernel
theorem dL_law_19 : decode cL_law 19 = .ok (.astore_n 3, 1) := by decide +kernel
theorem dL_law_20 : decode cL_law 20 = .ok (.iconst 0, 1) := by decide +kernel
theorem dL_law_21 : decode cL_law 21 = .ok (.istore 4, 2) := by decide +kernel
theorem dL_law_23 : decode cL_law 23 = .ok (.iload 4, 2) := by decide +kernel
theorem dL_law_25 : decode cL_law 25 = .ok (.aload_n 0, 1) := by decide +kernel
theorem dL_law_26 : decode cL_law 26 = .ok (.arraylength, 1) := by decide +kernel
theorem dL_law_27 : decode cL_law 27 = .ok (.iconst 5, 1) := by decide +kernel
theorem dL_law_28 : decode cL_law 28 = .ok (.isub, 1) := by decide +kernel
theorem dL_law_29 : decode cL_law 29 = .ok (.if_icmp .gt 735, 3) := by decide +kernel
theorem dL_law_32 : decode cL_law 32 = .ok (.aload_n 0, 1) := by decide +kernel
theorem dL_law_33 : decode cL_law 33 = .ok (.iload 4, 2) := by decide +kernel
theorem dL_law_35 : decode cL_law 35 = .ok (.iaload, 1) := by decide +kernel
theorem dL_law_36 : decode cL_law 36 = .ok (.bipush 15, 2) := by decide +kernel
theorem dL_law_38 : decode cL_law 38 = .ok (.iand, 1) := by decide +kernel
theorem dL_law_39 : decode cL_law 39 = .ok (.tableswitch 719 0 10 #[57, 125, 186, 267, 367, 406, 443, 510, 578, 657, 694], 57) := by decide +kernel
theorem dL_law_96 : decode cL_law 96 = .ok (.aload_n 1, 1) := by decide +kernel
theorem dL_law_97 : decode cL_law 97 = .ok (.aload_n 0, 1) := by decide +kernel
theorem dL_law_98 : decode cL_law 98 = .ok (.iload 4, 2) := by decide +kernel
theorem dL_law_100 : decode cL_law 100 = .ok (.iconst 1, 1) := by decide +kernel
theorem dL_law_101 : decode cL_law 101 = .ok (.iadd, 1) := by decide +kernel
theorem dL_law_102 : decode cL_law 102 = .ok (.iaload, 1) := by decide +kernel
theorem dL_law_103 : decode cL_law 103 = .ok (.aload_n 0, 1) := by decide +kernel
theorem dL_law_104 : decode cL_law 104 = .ok (.iload 4, 2) := by decide +kernel
theorem dL_law_106 : decode cL_law 106 = .ok (.iconst 2, 1) := by decide +kernel
theorem dL_law_107 : decode cL_law 107 = .ok (.iadd, 1) := by decide +kernel
theorem dL_law_108 : decode cL_law 108 = .ok (.iaload, 1) := by decide +kernel
theorem dL_law_109 : decode cL_law 109 = .ok (.aload_n 3, 1) := by decide +kernel
theorem dL_law_110 : decode cL_law 110 = .ok (.invokestatic 38, 3) := by decide +kernel
theorem dL_law_113 : decode cL_law 113 = .ok (.istore 5, 2) := by decide +kernel
theorem dL_law_115 : decode cL_law 115 = .ok (.aload_n 2, 1) := by decide +kernel
theorem dL_law_116 : decode cL_law 116 = .ok (.aload_n 0, 1) := by decide +kernel
theorem dL_law_117 : decode cL_law 117 = .ok (.iload 4, 2) := by decide +kernel
theorem dL_law_119 : decode cL_law 119 = .ok (.iconst 1, 1) := by decide +kernel
theorem dL_law_120 : decode cL_law 120 = .ok (.iadd, 1) := by decide +kernel
theorem dL_law_121 : decode cL_law 121 = .ok (.iaload, 1) := by decide +kernel
theorem dL_law_122 : decode cL_law 122 = .ok (.aload_n 0, 1) := by decide +kernel
theorem dL_law_123 : decode cL_law 123 = .ok (.iload 4, 2) := by decide +kernel
theorem dL_law_125 : decode cL_law 125 = .ok (.iconst 2, 1) := by decide +kernel
theorem dL_law_126 : decode cL_law 126 = .ok (.iadd, 1) := by decide +kernel
theorem dL_law_127 : decode cL_law 127 = .ok (.iaload, 1) := by decide +kernel
theorem dL_law_128 : decode cL_law 128 = .ok (.invokevirtual 43, 3) := by decide +kernel
theorem dL_law_131 : decode cL_law 131 = .ok (.istore 6, 2) := by decide +kernel
theorem dL_law_133 : decode cL_law 133 = .ok (.aload_n 2, 1) := by decide +kernel
theorem dL_law_134 : decode cL_law 134 = .ok (.invokevirtual 44, 3) := by decide +kernel
theorem dL_law_137 : decode cL_law 137 = .ok (.iload 5, 2) := by decide +kernel
theorem dL_law_139 : decode cL_law 139 = .ok (.if_icmp .eq 5, 3) := by decide +kernel
theorem dL_law_142 : decode cL_law 142 = .ok (.iconst 0, 1) := by decide +kernel
theorem dL_law_143 : decode cL_law 143 = .ok (.ireturn, 1) := by decide +kernel
theorem dL_law_144 : decode cL_law 144 = .ok (.iload 5, 2) := by decide +kernel
theorem dL_law_146 : decode cL_law 146 = .ok (.ifCond .ne 15, 3) := by decide +kernel
theorem dL_law_149 : decode cL_law 149 = .ok (.aload_n 3, 1) := by decide +kernel
theorem dL_law_150 : decode cL_law 150 = .ok (.iconst 0, 1) := by decide +kernel
theorem dL_law_151 : decode cL_law 151 = .ok (.laload, 1) := by decide +kernel
theorem dL_law_152 : decode cL_law 152 = .ok (.iload 6, 2) := by decide +kernel
theorem dL_law_154 : decode cL_law 154 = .ok (.i2l, 1) := by decide +kernel
theorem dL_law_155 : decode cL_law 155 = .ok (.lcmp, 1) := by decide +kernel
theorem dL_law_156 : decode cL_law 156 = .ok (.ifCond .eq 5, 3) := by decide +kernel
theorem dL_law_159 : decode cL_law 159 = .ok (.iconst 0, 1) := by decide +kernel
theorem dL_law_160 : decode cL_law 160 = .ok (.ireturn, 1) := by decide +kernel
theorem dL_law_161 : decode cL_law 161 = .ok (.goto 597, 3) := by decide +kernel
theorem dL_law_164 : decode cL_law 164 = .ok (.aload_n 1, 1) := by decide +kernel
theorem dL_law_165 : decode cL_law 165 = .ok (.aload_n 0, 1) := by decide +kernel
theorem dL_law_166 : decode cL_law 166 = .ok (.iload 4, 2) := by decide +kernel
theorem dL_law_168 : decode cL_law 168 = .ok (.iconst 1, 1) := by decide +kernel
theorem dL_law_169 : decode cL_law 169 = .ok (.iadd, 1) := by decide +kernel
theorem dL_law_170 : decode cL_law 170 = .ok (.iaload, 1) := by decide +kernel
theorem dL_law_171 : decode cL_law 171 = .ok (.aload_n 0, 1) := by decide +kernel
theorem dL_law_172 : decode cL_law 172 = .ok (.iload 4, 2) := by decide +kernel
theorem dL_law_174 : decode cL_law 174 = .ok (.iconst 2, 1) := by decide +kernel
theorem dL_law_175 : decode cL_law 175 = .ok (.iadd, 1) := by decide +kernel
theorem dL_law_176 : decode cL_law 176 = .ok (.iaload, 1) := by decide +kernel
theorem dL_law_177 : decode cL_law 177 = .ok (.aload_n 0, 1) := by decide +kernel
theorem dL_law_178 : decode cL_law 178 = .ok (.iload 4, 2) := by decide +kernel
theorem dL_law_180 : decode cL_law 180 = .ok (.iconst 3, 1) := by decide +kernel
theorem dL_law_181 : decode cL_law 181 = .ok (.iadd, 1) := by decide +kernel
theorem dL_law_182 : decode cL_law 182 = .ok (.iaload, 1) := by decide +kernel
theorem dL_law_183 : decode cL_law 183 = .ok (.aload_n 0, 1) := by decide +kernel
theorem dL_law_184 : decode cL_law 184 = .ok (.iload 4, 2) := by decide +kernel
theorem dL_law_186 : decode cL_law 186 = .ok (.iconst 4, 1) := by decide +kernel
theorem dL_law_187 : decode cL_law 187 = .ok (.iadd, 1) := by decide +kernel
theorem dL_law_188 : decode cL_law 188 = .ok (.iaload, 1) := by decide +kernel
theorem dL_law_189 : decode cL_law 189 = .ok (.invokevirtual 48, 3) := by decide +kernel
theorem dL_law_192 : decode cL_law 192 = .ok (.aload_n 2, 1) := by decide +kernel
theorem dL_law_193 : decode cL_law 193 = .ok (.aload_n 0, 1) := by decide +kernel
theorem dL_law_194 : decode cL_law 194 = .ok (.iload 4, 2) := by decide +kernel
theorem dL_law_196 : decode cL_law 196 = .ok (.iconst 1, 1) := by decide +kernel
theorem dL_law_197 : decode cL_law 197 = .ok (.iadd, 1) := by decide +kernel
theorem dL_law_198 : decode cL_law 198 = .ok (.iaload, 1) := by decide +kernel
theorem dL_law_199 : decode cL_law 199 = .ok (.aload_n 0, 1) := by decide +kernel
theorem dL_law_200 : decode cL_law 200 = .ok (.iload 4, 2) := by decide +kernel
theorem dL_law_202 : decode cL_law 202 = .ok (.iconst 2, 1) := by decide +kernel
theorem dL_law_203 : decode cL_law 203 = .ok (.iadd, 1) := by decide +kernel
theorem dL_law_204 : decode cL_law 204 = .ok (.iaload, 1) := by decide +kernel
theorem dL_law_205 : decode cL_law 205 = .ok (.aload_n 0, 1) := by decide +kernel
theorem dL_law_206 : decode cL_law 206 = .ok (.iload 4, 2) := by decide +kernel
theorem dL_law_208 : decode cL_law 208 = .ok (.iconst 3, 1) := by decide +kernel
theorem dL_law_209 : decode cL_law 209 = .ok (.iadd, 1) := by decide +kernel
theorem dL_law_210 : decode cL_law 210 = .ok (.iaload, 1) := by decide +kernel
theorem dL_law_211 : decode cL_law 211 = .ok (.aload_n 0, 1) := by decide +kernel
theorem dL_law_212 : decode cL_law 212 = .ok (.iload 4, 2) := by decide +kernel
theorem dL_law_214 : decode cL_law 214 = .ok (.iconst 4, 1) := by decide +kernel
theorem dL_law_215 : decode cL_law 215 = .ok (.iadd, 1) := by decide +kernel
theorem dL_law_216 : decode cL_law 216 = .ok (.iaload, 1) := by decide +kernel
theorem dL_law_217 : decode cL_law 217 = .ok (.invokevirtual 52, 3) := by decide +kernel
theorem dL_law_220 : decode cL_law 220 = .ok (.if_icmp .eq 538, 3) := by decide +kernel
theorem dL_law_223 : decode cL_law 223 = .ok (.iconst 0, 1) := by decide +kernel
theorem dL_law_224 : decode cL_law 224 = .ok (.ireturn, 1) := by decide +kernel
theorem dL_law_225 : decode cL_law 225 = .ok (.aload_n 1, 1) := by decide +kernel
theorem dL_law_226 : decode cL_law 226 = .ok (.aload_n 0, 1) := by decide +kernel
theorem dL_law_227 : decode cL_law 227 = .ok (.iload 4, 2) := by decide +kernel
theorem dL_law_229 : decode cL_law 229 = .ok (.iconst 1, 1) := by decide +kernel
theorem dL_law_230 : decode cL_law 230 = .ok (.iadd, 1) := by decide +kernel
theorem dL_law_231 : decode cL_law 231 = .ok (.iaload, 1) := by decide +kernel
theorem dL_law_232 : decode cL_law 232 = .ok (.aload_n 0, 1) := by decide +kernel
theorem dL_law_233 : decode cL_law 233 = .ok (.iload 4, 2) := by decide +kernel
theorem dL_law_235 : decode cL_law 235 = .ok (.iconst 2, 1) := by decide +kernel
theorem dL_law_236 : decode cL_law 236 = .ok (.iadd, 1) := by decide +kernel
theorem dL_law_237 : decode cL_law 237 = .ok (.iaload, 1) := by decide +kernel
theorem dL_law_238 : decode cL_law 238 = .ok (.aload_n 0, 1) := by decide +kernel
theorem dL_law_239 : decode cL_law 239 = .ok (.iload 4, 2) := by decide +kernel
theorem dL_law_241 : decode cL_law 241 = .ok (.iconst 3, 1) := by decide +kernel
theorem dL_law_242 : decode cL_law 242 = .ok (.iadd, 1) := by decide +kernel
theorem dL_law_243 : decode cL_law 243 = .ok (.iaload, 1) := by decide +kernel
theorem dL_law_244 : decode cL_law 244 = .ok (.i2l, 1) := by decide +kernel
theorem dL_law_245 : decode cL_law 245 = .ok (.bipush 32, 2) := by decide +kernel
theorem dL_law_247 : decode cL_law 247 = .ok (.lshl, 1) := by decide +kernel
theorem dL_law_248 : decode cL_law 248 = .ok (.aload_n 0, 1) := by decide +kernel
theorem dL_law_249 : decode cL_law 249 = .ok (.iload 4, 2) := by decide +kernel
theorem dL_law_251 : decode cL_law 251 = .ok (.iconst 4, 1) := by decide +kernel
theorem dL_law_252 : decode cL_law 252 = .ok (.iadd, 1) := by decide +kernel
theorem dL_law_253 : decode cL_law 253 = .ok (.iaload, 1) := by decide +kernel
theorem dL_law_254 : decode cL_law 254 = .ok (.i2l, 1) := by decide +kernel
theorem dL_law_255 : decode cL_law 255 = .ok (.ldc2_w 53, 3) := by decide +kernel
theorem dL_law_258 : decode cL_law 258 = .ok (.land, 1) := by decide +kernel
theorem dL_law_259 : decode cL_law 259 = .ok (.lor, 1) := by decide +kernel
theorem dL_law_260 : decode cL_law 260 = .ok (.invokevirtual 55, 3) := by decide +kernel
theorem dL_law_263 : decode cL_law 263 = .ok (.aload_n 2, 1) := by decide +kernel
theorem dL_law_264 : decode cL_law 264 = .ok (.aload_n 0, 1) := by decide +kernel
theorem dL_law_265 : decode cL_law 265 = .ok (.iload 4, 2) := by decide +kernel
theorem dL_law_267 : decode cL_law 267 = .ok (.iconst 1, 1) := by decide +kernel
theorem dL_law_268 : decode cL_law 268 = .ok (.iadd, 1) := by decide +kernel
theorem dL_law_269 : decode cL_law 269 = .ok (.iaload, 1) := by decide +kernel
theorem dL_law_270 : decode cL_law 270 = .ok (.aload_n 0, 1) := by decide +kernel
theorem dL_law_271 : decode cL_law 271 = .ok (.iload 4, 2) := by decide +kernel
theorem dL_law_273 : decode cL_law 273 = .ok (.iconst 2, 1) := by decide +kernel
theorem dL_law_274 : decode cL_law 274 = .ok (.iadd, 1) := by decide +kernel
theorem dL_law_275 : decode cL_law 275 = .ok (.iaload, 1) := by decide +kernel
theorem dL_law_276 : decode cL_law 276 = .ok (.aload_n 0, 1) := by decide +kernel
theorem dL_law_277 : decode cL_law 277 = .ok (.iload 4, 2) := by decide +kernel
theorem dL_law_279 : decode cL_law 279 = .ok (.iconst 3, 1) := by decide +kernel
theorem dL_law_280 : decode cL_law 280 = .ok (.iadd, 1) := by decide +kernel
theorem dL_law_281 : decode cL_law 281 = .ok (.iaload, 1) := by decide +kernel
theorem dL_law_282 : decode cL_law 282 = .ok (.i2l, 1) := by decide +kernel
theorem dL_law_283 : decode cL_law 283 = .ok (.bipush 32, 2) := by decide +kernel
theorem dL_law_285 : decode cL_law 285 = .ok (.lshl, 1) := by decide +kernel
theorem dL_law_286 : decode cL_law 286 = .ok (.aload_n 0, 1) := by decide +kernel
theorem dL_law_287 : decode cL_law 287 = .ok (.iload 4, 2) := by decide +kernel
theorem dL_law_289 : decode cL_law 289 = .ok (.iconst 4, 1) := by decide +kernel
theorem dL_law_290 : decode cL_law 290 = .ok (.iadd, 1) := by decide +kernel
theorem dL_law_291 : decode cL_law 291 = .ok (.iaload, 1) := by decide +kernel
theorem dL_law_292 : decode cL_law 292 = .ok (.i2l, 1) := by decide +kernel
theorem dL_law_293 : decode cL_law 293 = .ok (.ldc2_w 53, 3) := by decide +kernel
theorem dL_law_296 : decode cL_law 296 = .ok (.land, 1) := by decide +kernel
theorem dL_law_297 : decode cL_law 297 = .ok (.lor, 1) := by decide +kernel
theorem dL_law_298 : decode cL_law 298 = .ok (.invokevirtual 59, 3) := by decide +kernel
theorem dL_law_301 : decode cL_law 301 = .ok (.if_icmp .eq 457, 3) := by decide +kernel
theorem dL_law_304 : decode cL_law 304 = .ok (.iconst 0, 1) := by decide +kernel
theorem dL_law_305 : decode cL_law 305 = .ok (.ireturn, 1) := by decide +kernel
theorem dL_law_306 : decode cL_law 306 = .ok (.aload_n 1, 1) := by decide +kernel
theorem dL_law_307 : decode cL_law 307 = .ok (.aload_n 0, 1) := by decide +kernel
theorem dL_law_308 : decode cL_law 308 = .ok (.iload 4, 2) := by decide +kernel
theorem dL_law_310 : decode cL_law 310 = .ok (.iconst 1, 1) := by decide +kernel
theorem dL_law_311 : decode cL_law 311 = .ok (.iadd, 1) := by decide +kernel
theorem dL_law_312 : decode cL_law 312 = .ok (.iaload, 1) := by decide +kernel
theorem dL_law_313 : decode cL_law 313 = .ok (.aload_n 0, 1) := by decide +kernel
theorem dL_law_314 : decode cL_law 314 = .ok (.iload 4, 2) := by decide +kernel
theorem dL_law_316 : decode cL_law 316 = .ok (.iconst 2, 1) := by decide +kernel
theorem dL_law_317 : decode cL_law 317 = .ok (.iadd, 1) := by decide +kernel
theorem dL_law_318 : decode cL_law 318 = .ok (.iaload, 1) := by decide +kernel
theorem dL_law_319 : decode cL_law 319 = .ok (.i2l, 1) := by decide +kernel
theorem dL_law_320 : decode cL_law 320 = .ok (.bipush 32, 2) := by decide +kernel
theorem dL_law_322 : decode cL_law 322 = .ok (.lshl, 1) := by decide +kernel
theorem dL_law_323 : decode cL_law 323 = .ok (.aload_n 0, 1) := by decide +kernel
theorem dL_law_324 : decode cL_law 324 = .ok (.iload 4, 2) := by decide +kernel
theorem dL_law_326 : decode cL_law 326 = .ok (.iconst 3, 1) := by decide +kernel
theorem dL_law_327 : decode cL_law 327 = .ok (.iadd, 1) := by decide +kernel
theorem dL_law_328 : decode cL_law 328 = .ok (.iaload, 1) := by decide +kernel
theorem dL_law_329 : decode cL_law 329 = .ok (.i2l, 1) := by decide +kernel
theorem dL_law_330 : decode cL_law 330 = .ok (.ldc2_w 53, 3) := by decide +kernel
theorem dL_law_333 : decode cL_law 333 = .ok (.land, 1) := by decide +kernel
theorem dL_law_334 : decode cL_law 334 = .ok (.lor, 1) := by decide +kernel
theorem dL_law_335 : decode cL_law 335 = .ok (.aload_n 3, 1) := by decide +kernel
theorem dL_law_336 : decode cL_law 336 = .ok (.invokestatic 60, 3) := by decide +kernel
theorem dL_law_339 : decode cL_law 339 = .ok (.istore 5, 2) := by decide +kernel
theorem dL_law_341 : decode cL_law 341 = .ok (.aload_n 2, 1) := by decide +kernel
theorem dL_law_342 : decode cL_law 342 = .ok (.aload_n 0, 1) := by decide +kernel
theorem dL_law_343 : decode cL_law 343 = .ok (.iload 4, 2) := by decide +kernel
theorem dL_law_345 : decode cL_law 345 = .ok (.iconst 1, 1) := by decide +kernel
theorem dL_law_346 : decode cL_law 346 = .ok (.iadd, 1) := by decide +kernel
theorem dL_law_347 : decode cL_law 347 = .ok (.iaload, 1) := by decide +kernel
theorem dL_law_348 : decode cL_law 348 = .ok (.aload_n 0, 1) := by decide +kernel
theorem dL_law_349 : decode cL_law 349 = .ok (.iload 4, 2) := by decide +kernel
theorem dL_law_351 : decode cL_law 351 = .ok (.iconst 2, 1) := by decide +kernel
theorem dL_law_352 : decode cL_law 352 = .ok (.iadd, 1) := by decide +kernel
theorem dL_law_353 : decode cL_law 353 = .ok (.iaload, 1) := by decide +kernel
theorem dL_law_354 : decode cL_law 354 = .ok (.i2l, 1) := by decide +kernel
theorem dL_law_355 : decode cL_law 355 = .ok (.bipush 32, 2) := by decide +kernel
theorem dL_law_357 : decode cL_law 357 = .ok (.lshl, 1) := by decide +kernel
theorem dL_law_358 : decode cL_law 358 = .ok (.aload_n 0, 1) := by decide +kernel
theorem dL_law_359 : decode cL_law 359 = .ok (.iload 4, 2) := by decide +kernel
theorem dL_law_361 : decode cL_law 361 = .ok (.iconst 3, 1) := by decide +kernel
theorem dL_law_362 : decode cL_law 362 = .ok (.iadd, 1) := by decide +kernel
theorem dL_law_363 : decode cL_law 363 = .ok (.iaload, 1) := by decide +kernel
theorem dL_law_364 : decode cL_law 364 = .ok (.i2l, 1) := by decide +kernel
theorem dL_law_365 : decode cL_law 365 = .ok (.ldc2_w 53, 3) := by decide +kernel
theorem dL_law_368 : decode cL_law 368 = .ok (.land, 1) := by decide +kernel
theorem dL_law_369 : decode cL_law 369 = .ok (.lor, 1) := by decide +kernel
theorem dL_law_370 : decode cL_law 370 = .ok (.invokevirtual 63, 3) := by decide +kernel
theorem dL_law_373 : decode cL_law 373 = .ok (.istore 6, 2) := by decide +kernel
theorem dL_law_375 : decode cL_law 375 = .ok (.aload_n 2, 1) := by decide +kernel
theorem dL_law_376 : decode cL_law 376 = .ok (.invokevirtual 44, 3) := by decide +kernel
theorem dL_law_379 : decode cL_law 379 = .ok (.iload 5, 2) := by decide +kernel
theorem dL_law_381 : decode cL_law 381 = .ok (.if_icmp .eq 5, 3) := by decide +kernel
theorem dL_law_384 : decode cL_law 384 = .ok (.iconst 0, 1) := by decide +kernel
theorem dL_law_385 : decode cL_law 385 = .ok (.ireturn, 1) := by decide +kernel
theorem dL_law_386 : decode cL_law 386 = .ok (.iload 5, 2) := by decide +kernel
theorem dL_law_388 : decode cL_law 388 = .ok (.ifCond .ne 15, 3) := by decide +kernel
theorem dL_law_391 : decode cL_law 391 = .ok (.aload_n 3, 1) := by decide +kernel
theorem dL_law_392 : decode cL_law 392 = .ok (.iconst 0, 1) := by decide +kernel
theorem dL_law_393 : decode cL_law 393 = .ok (.laload, 1) := by decide +kernel
theorem dL_law_394 : decode cL_law 394 = .ok (.iload 6, 2) := by decide +kernel
theorem dL_law_396 : decode cL_law 396 = .ok (.i2l, 1) := by decide +kernel
theorem dL_law_397 : decode cL_law 397 = .ok (.lcmp, 1) := by decide +kernel
theorem dL_law_398 : decode cL_law 398 = .ok (.ifCond .eq 5, 3) := by decide +kernel
theorem dL_law_401 : decode cL_law 401 = .ok (.iconst 0, 1) := by decide +kernel
theorem dL_law_402 : decode cL_law 402 = .ok (.ireturn, 1) := by decide +kernel
theorem dL_law_403 : decode cL_law 403 = .ok (.goto 355, 3) := by decide +kernel
theorem dL_law_406 : decode cL_law 406 = .ok (.aload_n 1, 1) := by decide +kernel
theorem dL_law_407 : decode cL_law 407 = .ok (.aload_n 0, 1) := by decide +kernel
theorem dL_law_408 : decode cL_law 408 = .ok (.iload 4, 2) := by decide +kernel
theorem dL_law_410 : decode cL_law 410 = .ok (.iconst 1, 1) := by decide +kernel
theorem dL_law_411 : decode cL_law 411 = .ok (.iadd, 1) := by decide +kernel
theorem dL_law_412 : decode cL_law 412 = .ok (.iaload, 1) := by decide +kernel
theorem dL_law_413 : decode cL_law 413 = .ok (.ifCond .eq 7, 3) := by decide +kernel
theorem dL_law_416 : decode cL_law 416 = .ok (.iconst 1, 1) := by decide +kernel
theorem dL_law_417 : decode cL_law 417 = .ok (.goto 4, 3) := by decide +kernel
theorem dL_law_420 : decode cL_law 420 = .ok (.iconst 0, 1) := by decide +kernel
theorem dL_law_421 : decode cL_law 421 = .ok (.invokevirtual 64, 3) := by decide +kernel
theorem dL_law_424 : decode cL_law 424 = .ok (.aload_n 2, 1) := by decide +kernel
theorem dL_law_425 : decode cL_law 425 = .ok (.aload_n 0, 1) := by decide +kernel
theorem dL_law_426 : decode cL_law 426 = .ok (.iload 4, 2) := by decide +kernel
theorem dL_law_428 : decode cL_law 428 = .ok (.iconst 1, 1) := by decide +kernel
theorem dL_law_429 : decode cL_law 429 = .ok (.iadd, 1) := by decide +kernel
theorem dL_law_430 : decode cL_law 430 = .ok (.iaload, 1) := by decide +kernel
theorem dL_law_431 : decode cL_law 431 = .ok (.ifCond .eq 7, 3) := by decide +kernel
theorem dL_law_434 : decode cL_law 434 = .ok (.iconst 1, 1) := by decide +kernel
theorem dL_law_435 : decode cL_law 435 = .ok (.goto 4, 3) := by decide +kernel
theorem dL_law_438 : decode cL_law 438 = .ok (.iconst 0, 1) := by decide +kernel
theorem dL_law_439 : decode cL_law 439 = .ok (.invokevirtual 68, 3) := by decide +kernel
theorem dL_law_442 : decode cL_law 442 = .ok (.goto 316, 3) := by decide +kernel
theorem dL_law_445 : decode cL_law 445 = .ok (.aload_n 1, 1) := by decide +kernel
theorem dL_law_446 : decode cL_law 446 = .ok (.aload_n 0, 1) := by decide +kernel
theorem dL_law_447 : decode cL_law 447 = .ok (.iload 4, 2) := by decide +kernel
theorem dL_law_449 : decode cL_law 449 = .ok (.iconst 1, 1) := by decide +kernel
theorem dL_law_450 : decode cL_law 450 = .ok (.iadd, 1) := by decide +kernel
theorem dL_law_451 : decode cL_law 451 = .ok (.iaload, 1) := by decide +kernel
theorem dL_law_452 : decode cL_law 452 = .ok (.aload_n 0, 1) := by decide +kernel
theorem dL_law_453 : decode cL_law 453 = .ok (.iload 4, 2) := by decide +kernel
theorem dL_law_455 : decode cL_law 455 = .ok (.iconst 2, 1) := by decide +kernel
theorem dL_law_456 : decode cL_law 456 = .ok (.iadd, 1) := by decide +kernel
theorem dL_law_457 : decode cL_law 457 = .ok (.iaload, 1) := by decide +kernel
theorem dL_law_458 : decode cL_law 458 = .ok (.invokevirtual 69, 3) := by decide +kernel
theorem dL_law_461 : decode cL_law 461 = .ok (.aload_n 2, 1) := by decide +kernel
theorem dL_law_462 : decode cL_law 462 = .ok (.aload_n 0, 1) := by decide +kernel
theorem dL_law_463 : decode cL_law 463 = .ok (.iload 4, 2) := by decide +kernel
theorem dL_law_465 : decode cL_law 465 = .ok (.iconst 1, 1) := by decide +kernel
theorem dL_law_466 : decode cL_law 466 = .ok (.iadd, 1) := by decide +kernel
theorem dL_law_467 : decode cL_law 467 = .ok (.iaload, 1) := by decide +kernel
theorem dL_law_468 : decode cL_law 468 = .ok (.aload_n 0, 1) := by decide +kernel
theorem dL_law_469 : decode cL_law 469 = .ok (.iload 4, 2) := by decide +kernel
theorem dL_law_471 : decode cL_law 471 = .ok (.iconst 2, 1) := by decide +kernel
theorem dL_law_472 : decode cL_law 472 = .ok (.iadd, 1) := by decide +kernel
theorem dL_law_473 : decode cL_law 473 = .ok (.iaload, 1) := by decide +kernel
theorem dL_law_474 : decode cL_law 474 = .ok (.invokevirtual 72, 3) := by decide +kernel
theorem dL_law_477 : decode cL_law 477 = .ok (.if_icmp .eq 281, 3) := by decide +kernel
theorem dL_law_480 : decode cL_law 480 = .ok (.iconst 0, 1) := by decide +kernel
theorem dL_law_481 : decode cL_law 481 = .ok (.ireturn, 1) := by decide +kernel
theorem dL_law_482 : decode cL_law 482 = .ok (.aload_n 1, 1) := by decide +kernel
theorem dL_law_483 : decode cL_law 483 = .ok (.aload_n 0, 1) := by decide +kernel
theorem dL_law_484 : decode cL_law 484 = .ok (.iload 4, 2) := by decide +kernel
theorem dL_law_486 : decode cL_law 486 = .ok (.iconst 1, 1) := by decide +kernel
theorem dL_law_487 : decode cL_law 487 = .ok (.iadd, 1) := by decide +kernel
theorem dL_law_488 : decode cL_law 488 = .ok (.iaload, 1) := by decide +kernel
theorem dL_law_489 : decode cL_law 489 = .ok (.aload_n 0, 1) := by decide +kernel
theorem dL_law_490 : decode cL_law 490 = .ok (.iload 4, 2) := by decide +kernel
theorem dL_law_492 : decode cL_law 492 = .ok (.iconst 2, 1) := by decide +kernel
theorem dL_law_493 : decode cL_law 493 = .ok (.iadd, 1) := by decide +kernel
theorem dL_law_494 : decode cL_law 494 = .ok (.iaload, 1) := by decide +kernel
theorem dL_law_495 : decode cL_law 495 = .ok (.aload_n 3, 1) := by decide +kernel
theorem dL_law_496 : decode cL_law 496 = .ok (.invokestatic 73, 3) := by decide +kernel
theorem dL_law_499 : decode cL_law 499 = .ok (.istore 5, 2) := by decide +kernel
theorem dL_law_501 : decode cL_law 501 = .ok (.aload_n 2, 1) := by decide +kernel
theorem dL_law_502 : decode cL_law 502 = .ok (.aload_n 0, 1) := by decide +kernel
theorem dL_law_503 : decode cL_law 503 = .ok (.iload 4, 2) := by decide +kernel
theorem dL_law_505 : decode cL_law 505 = .ok (.iconst 1, 1) := by decide +kernel
theorem dL_law_506 : decode cL_law 506 = .ok (.iadd, 1) := by decide +kernel
theorem dL_law_507 : decode cL_law 507 = .ok (.iaload, 1) := by decide +kernel
theorem dL_law_508 : decode cL_law 508 = .ok (.aload_n 0, 1) := by decide +kernel
theorem dL_law_509 : decode cL_law 509 = .ok (.iload 4, 2) := by decide +kernel
theorem dL_law_511 : decode cL_law 511 = .ok (.iconst 2, 1) := by decide +kernel
theorem dL_law_512 : decode cL_law 512 = .ok (.iadd, 1) := by decide +kernel
theorem dL_law_513 : decode cL_law 513 = .ok (.iaload, 1) := by decide +kernel
theorem dL_law_514 : decode cL_law 514 = .ok (.invokevirtual 75, 3) := by decide +kernel
theorem dL_law_517 : decode cL_law 517 = .ok (.lstore 6, 2) := by decide +kernel
theorem dL_law_519 : decode cL_law 519 = .ok (.aload_n 2, 1) := by decide +kernel
theorem dL_law_520 : decode cL_law 520 = .ok (.invokevirtual 44, 3) := by decide +kernel
theorem dL_law_523 : decode cL_law 523 = .ok (.iload 5, 2) := by decide +kernel
theorem dL_law_525 : decode cL_law 525 = .ok (.if_icmp .eq 5, 3) := by decide +kernel
theorem dL_law_528 : decode cL_law 528 = .ok (.iconst 0, 1) := by decide +kernel
theorem dL_law_529 : decode cL_law 529 = .ok (.ireturn, 1) := by decide +kernel
theorem dL_law_530 : decode cL_law 530 = .ok (.iload 5, 2) := by decide +kernel
theorem dL_law_532 : decode cL_law 532 = .ok (.ifCond .ne 14, 3) := by decide +kernel
theorem dL_law_535 : decode cL_law 535 = .ok (.aload_n 3, 1) := by decide +kernel
theorem dL_law_536 : decode cL_law 536 = .ok (.iconst 0, 1) := by decide +kernel
theorem dL_law_537 : decode cL_law 537 = .ok (.laload, 1) := by decide +kernel
theorem dL_law_538 : decode cL_law 538 = .ok (.lload 6, 2) := by decide +kernel
theorem dL_law_540 : decode cL_law 540 = .ok (.lcmp, 1) := by decide +kernel
theorem dL_law_541 : decode cL_law 541 = .ok (.ifCond .eq 5, 3) := by decide +kernel
theorem dL_law_544 : decode cL_law 544 = .ok (.iconst 0, 1) := by decide +kernel
theorem dL_law_545 : decode cL_law 545 = .ok (.ireturn, 1) := by decide +kernel
theorem dL_law_546 : decode cL_law 546 = .ok (.goto 212, 3) := by decide +kernel
theorem dL_law_549 : decode cL_law 549 = .ok (.aload_n 1, 1) := by decide +kernel
theorem dL_law_550 : decode cL_law 550 = .ok (.aload_n 0, 1) := by decide +kernel
theorem dL_law_551 : decode cL_law 551 = .ok (.iload 4, 2) := by decide +kernel
theorem dL_law_553 : decode cL_law 553 = .ok (.iconst 1, 1) := by decide +kernel
theorem dL_law_554 : decode cL_law 554 = .ok (.iadd, 1) := by decide +kernel
theorem dL_law_555 : decode cL_law 555 = .ok (.iaload, 1) := by decide +kernel
theorem dL_law_556 : decode cL_law 556 = .ok (.aload_n 0, 1) := by decide +kernel
theorem dL_law_557 : decode cL_law 557 = .ok (.iload 4, 2) := by decide +kernel
theorem dL_law_559 : decode cL_law 559 = .ok (.iconst 2, 1) := by decide +kernel
theorem dL_law_560 : decode cL_law 560 = .ok (.iadd, 1) := by decide +kernel
theorem dL_law_561 : decode cL_law 561 = .ok (.iaload, 1) := by decide +kernel
theorem dL_law_562 : decode cL_law 562 = .ok (.aload_n 3, 1) := by decide +kernel
theorem dL_law_563 : decode cL_law 563 = .ok (.invokestatic 76, 3) := by decide +kernel
theorem dL_law_566 : decode cL_law 566 = .ok (.istore 5, 2) := by decide +kernel
theorem dL_law_568 : decode cL_law 568 = .ok (.aload_n 2, 1) := by decide +kernel
theorem dL_law_569 : decode cL_law 569 = .ok (.aload_n 0, 1) := by decide +kernel
theorem dL_law_570 : decode cL_law 570 = .ok (.iload 4, 2) := by decide +kernel
theorem dL_law_572 : decode cL_law 572 = .ok (.iconst 1, 1) := by decide +kernel
theorem dL_law_573 : decode cL_law 573 = .ok (.iadd, 1) := by decide +kernel
theorem dL_law_574 : decode cL_law 574 = .ok (.iaload, 1) := by decide +kernel
theorem dL_law_575 : decode cL_law 575 = .ok (.aload_n 0, 1) := by decide +kernel
theorem dL_law_576 : decode cL_law 576 = .ok (.iload 4, 2) := by decide +kernel
theorem dL_law_578 : decode cL_law 578 = .ok (.iconst 2, 1) := by decide +kernel
theorem dL_law_579 : decode cL_law 579 = .ok (.iadd, 1) := by decide +kernel
theorem dL_law_580 : decode cL_law 580 = .ok (.iaload, 1) := by decide +kernel
theorem dL_law_581 : decode cL_law 581 = .ok (.invokevirtual 78, 3) := by decide +kernel
theorem dL_law_584 : decode cL_law 584 = .ok (.istore 6, 2) := by decide +kernel
theorem dL_law_586 : decode cL_law 586 = .ok (.aload_n 2, 1) := by decide +kernel
theorem dL_law_587 : decode cL_law 587 = .ok (.invokevirtual 44, 3) := by decide +kernel
theorem dL_law_590 : decode cL_law 590 = .ok (.iload 5, 2) := by decide +kernel
theorem dL_law_592 : decode cL_law 592 = .ok (.if_icmp .eq 5, 3) := by decide +kernel
theorem dL_law_595 : decode cL_law 595 = .ok (.iconst 0, 1) := by decide +kernel
theorem dL_law_596 : decode cL_law 596 = .ok (.ireturn, 1) := by decide +kernel
theorem dL_law_597 : decode cL_law 597 = .ok (.iload 5, 2) := by decide +kernel
theorem dL_law_599 : decode cL_law 599 = .ok (.ifCond .ne 15, 3) := by decide +kernel
theorem dL_law_602 : decode cL_law 602 = .ok (.aload_n 3, 1) := by decide +kernel
theorem dL_law_603 : decode cL_law 603 = .ok (.iconst 0, 1) := by decide +kernel
theorem dL_law_604 : decode cL_law 604 = .ok (.laload, 1) := by decide +kernel
theorem dL_law_605 : decode cL_law 605 = .ok (.iload 6, 2) := by decide +kernel
theorem dL_law_607 : decode cL_law 607 = .ok (.i2l, 1) := by decide +kernel
theorem dL_law_608 : decode cL_law 608 = .ok (.lcmp, 1) := by decide +kernel
theorem dL_law_609 : decode cL_law 609 = .ok (.ifCond .eq 5, 3) := by decide +kernel
theorem dL_law_612 : decode cL_law 612 = .ok (.iconst 0, 1) := by decide +kernel
theorem dL_law_613 : decode cL_law 613 = .ok (.ireturn, 1) := by decide +kernel
theorem dL_law_614 : decode cL_law 614 = .ok (.goto 144, 3) := by decide +kernel
theorem dL_law_617 : decode cL_law 617 = .ok (.aload_n 1, 1) := by decide +kernel
theorem dL_law_618 : decode cL_law 618 = .ok (.aload_n 0, 1) := by decide +kernel
theorem dL_law_619 : decode cL_law 619 = .ok (.iload 4, 2) := by decide +kernel
theorem dL_law_621 : decode cL_law 621 = .ok (.iconst 1, 1) := by decide +kernel
theorem dL_law_622 : decode cL_law 622 = .ok (.iadd, 1) := by decide +kernel
theorem dL_law_623 : decode cL_law 623 = .ok (.iaload, 1) := by decide +kernel
theorem dL_law_624 : decode cL_law 624 = .ok (.aload_n 0, 1) := by decide +kernel
theorem dL_law_625 : decode cL_law 625 = .ok (.iload 4, 2) := by decide +kernel
theorem dL_law_627 : decode cL_law 627 = .ok (.iconst 2, 1) := by decide +kernel
theorem dL_law_628 : decode cL_law 628 = .ok (.iadd, 1) := by decide +kernel
theorem dL_law_629 : decode cL_law 629 = .ok (.iaload, 1) := by decide +kernel
theorem dL_law_630 : decode cL_law 630 = .ok (.aload_n 0, 1) := by decide +kernel
theorem dL_law_631 : decode cL_law 631 = .ok (.iload 4, 2) := by decide +kernel
theorem dL_law_633 : decode cL_law 633 = .ok (.iconst 3, 1) := by decide +kernel
theorem dL_law_634 : decode cL_law 634 = .ok (.iadd, 1) := by decide +kernel
theorem dL_law_635 : decode cL_law 635 = .ok (.iaload, 1) := by decide +kernel
theorem dL_law_636 : decode cL_law 636 = .ok (.aload_n 3, 1) := by decide +kernel
theorem dL_law_637 : decode cL_law 637 = .ok (.invokestatic 79, 3) := by decide +kernel
theorem dL_law_640 : decode cL_law 640 = .ok (.istore 5, 2) := by decide +kernel
theorem dL_law_642 : decode cL_law 642 = .ok (.aload_n 2, 1) := by decide +kernel
theorem dL_law_643 : decode cL_law 643 = .ok (.aload_n 0, 1) := by decide +kernel
theorem dL_law_644 : decode cL_law 644 = .ok (.iload 4, 2) := by decide +kernel
theorem dL_law_646 : decode cL_law 646 = .ok (.iconst 1, 1) := by decide +kernel
theorem dL_law_647 : decode cL_law 647 = .ok (.iadd, 1) := by decide +kernel
theorem dL_law_648 : decode cL_law 648 = .ok (.iaload, 1) := by decide +kernel
theorem dL_law_649 : decode cL_law 649 = .ok (.aload_n 0, 1) := by decide +kernel
theorem dL_law_650 : decode cL_law 650 = .ok (.iload 4, 2) := by decide +kernel
theorem dL_law_652 : decode cL_law 652 = .ok (.iconst 2, 1) := by decide +kernel
theorem dL_law_653 : decode cL_law 653 = .ok (.iadd, 1) := by decide +kernel
theorem dL_law_654 : decode cL_law 654 = .ok (.iaload, 1) := by decide +kernel
theorem dL_law_655 : decode cL_law 655 = .ok (.aload_n 0, 1) := by decide +kernel
theorem dL_law_656 : decode cL_law 656 = .ok (.iload 4, 2) := by decide +kernel
theorem dL_law_658 : decode cL_law 658 = .ok (.iconst 3, 1) := by decide +kernel
theorem dL_law_659 : decode cL_law 659 = .ok (.iadd, 1) := by decide +kernel
theorem dL_law_660 : decode cL_law 660 = .ok (.iaload, 1) := by decide +kernel
theorem dL_law_661 : decode cL_law 661 = .ok (.invokevirtual 82, 3) := by decide +kernel
theorem dL_law_664 : decode cL_law 664 = .ok (.lstore 6, 2) := by decide +kernel
theorem dL_law_666 : decode cL_law 666 = .ok (.aload_n 2, 1) := by decide +kernel
theorem dL_law_667 : decode cL_law 667 = .ok (.invokevirtual 44, 3) := by decide +kernel
theorem dL_law_670 : decode cL_law 670 = .ok (.iload 5, 2) := by decide +kernel
theorem dL_law_672 : decode cL_law 672 = .ok (.if_icmp .eq 5, 3) := by decide +kernel
theorem dL_law_675 : decode cL_law 675 = .ok (.iconst 0, 1) := by decide +kernel
theorem dL_law_676 : decode cL_law 676 = .ok (.ireturn, 1) := by decide +kernel
theorem dL_law_677 : decode cL_law 677 = .ok (.iload 5, 2) := by decide +kernel
theorem dL_law_679 : decode cL_law 679 = .ok (.ifCond .ne 14, 3) := by decide +kernel
theorem dL_law_682 : decode cL_law 682 = .ok (.aload_n 3, 1) := by decide +kernel
theorem dL_law_683 : decode cL_law 683 = .ok (.iconst 0, 1) := by decide +kernel
theorem dL_law_684 : decode cL_law 684 = .ok (.laload, 1) := by decide +kernel
theorem dL_law_685 : decode cL_law 685 = .ok (.lload 6, 2) := by decide +kernel
theorem dL_law_687 : decode cL_law 687 = .ok (.lcmp, 1) := by decide +kernel
theorem dL_law_688 : decode cL_law 688 = .ok (.ifCond .eq 5, 3) := by decide +kernel
theorem dL_law_691 : decode cL_law 691 = .ok (.iconst 0, 1) := by decide +kernel
theorem dL_law_692 : decode cL_law 692 = .ok (.ireturn, 1) := by decide +kernel
theorem dL_law_693 : decode cL_law 693 = .ok (.goto 65, 3) := by decide +kernel
theorem dL_law_696 : decode cL_law 696 = .ok (.aload_n 1, 1) := by decide +kernel
theorem dL_law_697 : decode cL_law 697 = .ok (.aload_n 0, 1) := by decide +kernel
theorem dL_law_698 : decode cL_law 698 = .ok (.iload 4, 2) := by decide +kernel
theorem dL_law_700 : decode cL_law 700 = .ok (.iconst 1, 1) := by decide +kernel
theorem dL_law_701 : decode cL_law 701 = .ok (.iadd, 1) := by decide +kernel
theorem dL_law_702 : decode cL_law 702 = .ok (.iaload, 1) := by decide +kernel
theorem dL_law_703 : decode cL_law 703 = .ok (.aload_n 0, 1) := by decide +kernel
theorem dL_law_704 : decode cL_law 704 = .ok (.iload 4, 2) := by decide +kernel
theorem dL_law_706 : decode cL_law 706 = .ok (.iconst 2, 1) := by decide +kernel
theorem dL_law_707 : decode cL_law 707 = .ok (.iadd, 1) := by decide +kernel
theorem dL_law_708 : decode cL_law 708 = .ok (.iaload, 1) := by decide +kernel
theorem dL_law_709 : decode cL_law 709 = .ok (.invokevirtual 83, 3) := by decide +kernel
theorem dL_law_712 : decode cL_law 712 = .ok (.aload_n 2, 1) := by decide +kernel
theorem dL_law_713 : decode cL_law 713 = .ok (.aload_n 0, 1) := by decide +kernel
theorem dL_law_714 : decode cL_law 714 = .ok (.iload 4, 2) := by decide +kernel
theorem dL_law_716 : decode cL_law 716 = .ok (.iconst 1, 1) := by decide +kernel
theorem dL_law_717 : decode cL_law 717 = .ok (.iadd, 1) := by decide +kernel
theorem dL_law_718 : decode cL_law 718 = .ok (.iaload, 1) := by decide +kernel
theorem dL_law_719 : decode cL_law 719 = .ok (.aload_n 0, 1) := by decide +kernel
theorem dL_law_720 : decode cL_law 720 = .ok (.iload 4, 2) := by decide +kernel
theorem dL_law_722 : decode cL_law 722 = .ok (.iconst 2, 1) := by decide +kernel
theorem dL_law_723 : decode cL_law 723 = .ok (.iadd, 1) := by decide +kernel
theorem dL_law_724 : decode cL_law 724 = .ok (.iaload, 1) := by decide +kernel
theorem dL_law_725 : decode cL_law 725 = .ok (.invokevirtual 86, 3) := by decide +kernel
theorem dL_law_728 : decode cL_law 728 = .ok (.if_icmp .eq 30, 3) := by decide +kernel
theorem dL_law_731 : decode cL_law 731 = .ok (.iconst 0, 1) := by decide +kernel
theorem dL_law_732 : decode cL_law 732 = .ok (.ireturn, 1) := by decide +kernel
theorem dL_law_733 : decode cL_law 733 = .ok (.aload_n 1, 1) := by decide +kernel
theorem dL_law_734 : decode cL_law 734 = .ok (.aload_n 0, 1) := by decide +kernel
theorem dL_law_735 : decode cL_law 735 = .ok (.iload 4, 2) := by decide +kernel
theorem dL_law_737 : decode cL_law 737 = .ok (.iconst 1, 1) := by decide +kernel
theorem dL_law_738 : decode cL_law 738 = .ok (.iadd, 1) := by decide +kernel
theorem dL_law_739 : decode cL_law 739 = .ok (.iaload, 1) := by decide +kernel
theorem dL_law_740 : decode cL_law 740 = .ok (.invokevirtual 87, 3) := by decide +kernel
theorem dL_law_743 : decode cL_law 743 = .ok (.aload_n 2, 1) := by decide +kernel
theorem dL_law_744 : decode cL_law 744 = .ok (.aload_n 0, 1) := by decide +kernel
theorem dL_law_745 : decode cL_law 745 = .ok (.iload 4, 2) := by decide +kernel
theorem dL_law_747 : decode cL_law 747 = .ok (.iconst 1, 1) := by decide +kernel
theorem dL_law_748 : decode cL_law 748 = .ok (.iadd, 1) := by decide +kernel
theorem dL_law_749 : decode cL_law 749 = .ok (.iaload, 1) := by decide +kernel
theorem dL_law_750 : decode cL_law 750 = .ok (.invokevirtual 91, 3) := by decide +kernel
theorem dL_law_753 : decode cL_law 753 = .ok (.if_icmp .eq 5, 3) := by decide +kernel
theorem dL_law_756 : decode cL_law 756 = .ok (.iconst 0, 1) := by decide +kernel
theorem dL_law_757 : decode cL_law 757 = .ok (.ireturn, 1) := by decide +kernel
theorem dL_law_758 : decode cL_law 758 = .ok (.iinc 4 5, 3) := by decide +kernel
theorem dL_law_761 : decode cL_law 761 = .ok (.goto (-738), 3) := by decide +kernel
theorem dL_law_764 : decode cL_law 764 = .ok (.iconst 1, 1) := by decide +kernel
theorem dL_law_765 : decode cL_law 765 = .ok (.ireturn, 1) := by decide +kernel
end
section
/-! THE PURE HEAP: size, slots used, the kind of each address; objects by class number and address; int arrays; long arrays; arrays of references by kind (0 Cell, 1 Value, 2 Object); lists (what they hold, capacity, address of the data array, modCount) -/
abbrev hx_S : Type := (Nat) × (Nat) × (Nat → Nat) × (Nat → Nat → Option (List Value)) × (Nat → Option (Nat × (Nat → Int32))) × (Nat → Option (Nat × (Nat → Int64))) × (Nat → Nat → Option (Nat × (Nat → Option Nat))) × (Nat → Option (List Nat × Nat × Nat × Int32))
def Sz (M : hx_S) : Nat := M.1
def Sl (M : hx_S) : Nat := M.2.1
def Sk (M : hx_S) : Nat → Nat := M.2.2.1
def So (M : hx_S) : Nat → Nat → Option (List Value) := M.2.2.2.1
def Si (M : hx_S) : Nat → Option (Nat × (Nat → Int32)) := M.2.2.2.2.1
def Sj (M : hx_S) : Nat → Option (Nat × (Nat → Int64)) := M.2.2.2.2.2.1
def Sr (M : hx_S) : Nat → Nat → Option (Nat × (Nat → Option Nat)) := M.2.2.2.2.2.2.1
def Sq (M : hx_S) : Nat → Option (List Nat × Nat × Nat × Int32) := M.2.2.2.2.2.2.2
def oput (M : hx_S) (ci a : Nat) (x : Option (List Value)) : hx_S := (Sz M, Sl M, Sk M, (fun c b => if c = ci ∧ b = a then x else So M c b), Si M, Sj M, Sr M, Sq M)
def iput (M : hx_S) (a : Nat) (x : Option (Nat × (Nat → Int32))) : hx_S := (Sz M, Sl M, Sk M, So M, (fun b => if b = a then x else Si M b), Sj M, Sr M, Sq M)
def jput (M : hx_S) (a : Nat) (x : Option (Nat × (Nat → Int64))) : hx_S := (Sz M, Sl M, Sk M, So M, Si M, (fun b => if b = a then x else Sj M b), Sr M, Sq M)
def rput (M : hx_S) (k a : Nat) (x : Option (Nat × (Nat → Option Nat))) : hx_S := (Sz M, Sl M, Sk M, So M, Si M, Sj M, (fun c b => if c = k ∧ b = a then x else Sr M c b), Sq M)
def qput (M : hx_S) (a : Nat) (x : Option (List Nat × Nat × Nat × Int32)) : hx_S := (Sz M, Sl M, Sk M, So M, Si M, Sj M, Sr M, (fun b => if b = a then x else Sq M b))
def kput (M : hx_S) (a k : Nat) : hx_S := (Sz M, Sl M, (fun b => if b = a then k else Sk M b), So M, Si M, Sj M, Sr M, Sq M)
def grow (M : hx_S) (n k : Nat) : hx_S := ((Sz M + 1), (Sl M + n), (fun b => if b = Sz M then k else Sk M b), So M, Si M, Sj M, Sr M, Sq M)
theorem Sz_oput (M : hx_S) (ci a : Nat) (x : Option (List Value)) : Sz (oput M ci a x) = Sz M := rfl
theorem Sl_oput (M : hx_S) (ci a : Nat) (x : Option (List Value)) : Sl (oput M ci a x) = Sl M := rfl
theorem Sk_oput (M : hx_S) (ci a : Nat) (x : Option (List Value)) (b : Nat) : Sk (oput M ci a x) b = Sk M b := rfl
theorem So_oput (M : hx_S) (ci a : Nat) (x : Option (List Value)) (c b : Nat) : So (oput M ci a x) c b = if c = ci ∧ b = a then x else So M c b := rfl
theorem Si_oput (M : hx_S) (ci a : Nat) (x : Option (List Value)) (b : Nat) : Si (oput M ci a x) b = Si M b := rfl
theorem Sj_oput (M : hx_S) (ci a : Nat) (x : Option (List Value)) (b : Nat) : Sj (oput M ci a x) b = Sj M b := rfl
theorem Sr_oput (M : hx_S) (ci a : Nat) (x : Option (List Value)) (c b : Nat) : Sr (oput M ci a x) c b = Sr M c b := rfl
theorem Sq_oput (M : hx_S) (ci a : Nat) (x : Option (List Value)) (b : Nat) : Sq (oput M ci a x) b = Sq M b := rfl
theorem Sz_iput (M : hx_S) (a : Nat) (x : Option (Nat × (Nat → Int32))) : Sz (iput M a x) = Sz M := rfl
theorem Sl_iput (M : hx_S) (a : Nat) (x : Option (Nat × (Nat → Int32))) : Sl (iput M a x) = Sl M := rfl
theorem Sk_iput (M : hx_S) (a : Nat) (x : Option (Nat × (Nat → Int32))) (b : Nat) : Sk (iput M a x) b = Sk M b := rfl
theorem So_iput (M : hx_S) (a : Nat) (x : Option (Nat × (Nat → Int32))) (c b : Nat) : So (iput M a x) c b = So M c b := rfl
theorem Si_iput (M : hx_S) (a : Nat) (x : Option (Nat × (Nat → Int32))) (b : Nat) : Si (iput M a x) b = if b = a then x else Si M b := rfl
theorem Sj_iput (M : hx_S) (a : Nat) (x : Option (Nat × (Nat → Int32))) (b : Nat) : Sj (iput M a x) b = Sj M b := rfl
theorem Sr_iput (M : hx_S) (a : Nat) (x : Option (Nat × (Nat → Int32))) (c b : Nat) : Sr (iput M a x) c b = Sr M c b := rfl
theorem Sq_iput (M : hx_S) (a : Nat) (x : Option (Nat × (Nat → Int32))) (b : Nat) : Sq (iput M a x) b = Sq M b := rfl
theorem Sz_jput (M : hx_S) (a : Nat) (x : Option (Nat × (Nat → Int64))) : Sz (jput M a x) = Sz M := rfl
theorem Sl_jput (M : hx_S) (a : Nat) (x : Option (Nat × (Nat → Int64))) : Sl (jput M a x) = Sl M := rfl
theorem Sk_jput (M : hx_S) (a : Nat) (x : Option (Nat × (Nat → Int64))) (b : Nat) : Sk (jput M a x) b = Sk M b := rfl
theorem So_jput (M : hx_S) (a : Nat) (x : Option (Nat × (Nat → Int64))) (c b : Nat) : So (jput M a x) c b = So M c b := rfl
theorem Si_jput (M : hx_S) (a : Nat) (x : Option (Nat × (Nat → Int64))) (b : Nat) : Si (jput M a x) b = Si M b := rfl
theorem Sj_jput (M : hx_S) (a : Nat) (x : Option (Nat × (Nat → Int64))) (b : Nat) : Sj (jput M a x) b = if b = a then x else Sj M b := rfl
theorem Sr_jput (M : hx_S) (a : Nat) (x : Option (Nat × (Nat → Int64))) (c b : Nat) : Sr (jput M a x) c b = Sr M c b := rfl
theorem Sq_jput (M : hx_S) (a : Nat) (x : Option (Nat × (Nat → Int64))) (b : Nat) : Sq (jput M a x) b = Sq M b := rfl
theorem Sz_rput (M : hx_S) (k a : Nat) (x : Option (Nat × (Nat → Option Nat))) : Sz (rput M k a x) = Sz M := rfl
theorem Sl_rput (M : hx_S) (k a : Nat) (x : Option (Nat × (Nat → Option Nat))) : Sl (rput M k a x) = Sl M := rfl
theorem Sk_rput (M : hx_S) (k a : Nat) (x : Option (Nat × (Nat → Option Nat))) (b : Nat) : Sk (rput M k a x) b = Sk M b := rfl
theorem So_rput (M : hx_S) (k a : Nat) (x : Option (Nat × (Nat → Option Nat))) (c b : Nat) : So (rput M k a x) c b = So M c b := rfl
theorem Si_rput (M : hx_S) (k a : Nat) (x : Option (Nat × (Nat → Option Nat))) (b : Nat) : Si (rput M k a x) b = Si M b := rfl
theorem Sj_rput (M : hx_S) (k a : Nat) (x : Option (Nat × (Nat → Option Nat))) (b : Nat) : Sj (rput M k a x) b = Sj M b := rfl
theorem Sr_rput (M : hx_S) (k a : Nat) (x : Option (Nat × (Nat → Option Nat))) (c b : Nat) : Sr (rput M k a x) c b = if c = k ∧ b = a then x else Sr M c b := rfl
theorem Sq_rput (M : hx_S) (k a : Nat) (x : Option (Nat × (Nat → Option Nat))) (b : Nat) : Sq (rput M k a x) b = Sq M b := rfl
theorem Sz_qput (M : hx_S) (a : Nat) (x : Option (List Nat × Nat × Nat × Int32)) : Sz (qput M a x) = Sz M := rfl
theorem Sl_qput (M : hx_S) (a : Nat) (x : Option (List Nat × Nat × Nat × Int32)) : Sl (qput M a x) = Sl M := rfl
theorem Sk_qput (M : hx_S) (a : Nat) (x : Option (List Nat × Nat × Nat × Int32)) (b : Nat) : Sk (qput M a x) b = Sk M b := rfl
theorem So_qput (M : hx_S) (a : Nat) (x : Option (List Nat × Nat × Nat × Int32)) (c b : Nat) : So (qput M a x) c b = So M c b := rfl
theorem Si_qput (M : hx_S) (a : Nat) (x : Option (List Nat × Nat × Nat × Int32)) (b : Nat) : Si (qput M a x) b = Si M b := rfl
theorem Sj_qput (M : hx_S) (a : Nat) (x : Option (List Nat × Nat × Nat × Int32)) (b : Nat) : Sj (qput M a x) b = Sj M b := rfl
theorem Sr_qput (M : hx_S) (a : Nat) (x : Option (List Nat × Nat × Nat × Int32)) (c b : Nat) : Sr (qput M a x) c b = Sr M c b := rfl
theorem Sq_qput (M : hx_S) (a : Nat) (x : Option (List Nat × Nat × Nat × Int32)) (b : Nat) : Sq (qput M a x) b = if b = a then x else Sq M b := rfl
theorem Sz_kput (M : hx_S) (a k : Nat) : Sz (kput M a k) = Sz M := rfl
theorem Sl_kput (M : hx_S) (a k : Nat) : Sl (kput M a k) = Sl M := rfl
theorem Sk_kput (M : hx_S) (a k : Nat) (b : Nat) : Sk (kput M a k) b = if b = a then k else Sk M b := rfl
theorem So_kput (M : hx_S) (a k : Nat) (c b : Nat) : So (kput M a k) c b = So M c b := rfl
theorem Si_kput (M : hx_S) (a k : Nat) (b : Nat) : Si (kput M a k) b = Si M b := rfl
theorem Sj_kput (M : hx_S) (a k : Nat) (b : Nat) : Sj (kput M a k) b = Sj M b := rfl
theorem Sr_kput (M : hx_S) (a k : Nat) (c b : Nat) : Sr (kput M a k) c b = Sr M c b := rfl
theorem Sq_kput (M : hx_S) (a k : Nat) (b : Nat) : Sq (kput M a k) b = Sq M b := rfl
theorem Sz_grow (M : hx_S) (n k : Nat) : Sz (grow M n k) = (Sz M + 1) := rfl
theorem Sl_grow (M : hx_S) (n k : Nat) : Sl (grow M n k) = (Sl M + n) := rfl
theorem Sk_grow (M : hx_S) (n k : Nat) (b : Nat) : Sk (grow M n k) b = if b = Sz M then k else Sk M b := rfl
theorem So_grow (M : hx_S) (n k : Nat) (c b : Nat) : So (grow M n k) c b = So M c b := rfl
theorem Si_grow (M : hx_S) (n k : Nat) (b : Nat) : Si (grow M n k) b = Si M b := rfl
theorem Sj_grow (M : hx_S) (n k : Nat) (b : Nat) : Sj (grow M n k) b = Sj M b := rfl
theorem Sr_grow (M : hx_S) (n k : Nat) (c b : Nat) : Sr (grow M n k) c b = Sr M c b := rfl
theorem Sq_grow (M : hx_S) (n k : Nat) (b : Nat) : Sq (grow M n k) b = Sq M b := rfl
/-- a heap that has only grown -/
def hle (M M1 : hx_S) : Prop := Sz M ≤ Sz M1 ∧ Sl M ≤ Sl M1
theorem hle.rf (M : hx_S) : hle M M := ⟨Nat.le_refl _, Nat.le_refl _⟩
theorem hle.tr {M M1 M2 : hx_S} (h : hle M M1) (k : hle M1 M2) : hle M M2 := ⟨Nat.le_trans h.1 k.1, Nat.le_trans h.2 k.2⟩
end
section
/-! WHAT THE MACHINE'S HEAP HAS TO DO WITH THE PURE ONE. G: the launch; class numbers and slots; the array classes (int, long, Cell, Value, Object); addresses that the statics hold (ArrayList's empty array; Object[]'s class object; PORTS, WANTED_X, WANTED_Y); the region that may change -/
abbrev hx_G : Type := Launch × va_G × (ClassId × ClassId × ClassId × ClassId × ClassId) × (Nat × Nat × Nat × Nat × Nat) × (Nat → Prop)
abbrev gL (G : hx_G) : Launch := G.1
abbrev gD (G : hx_G) : va_G := G.2.1
abbrev gI (G : hx_G) : ClassId := G.2.2.1.1
abbrev gJ (G : hx_G) : ClassId := G.2.2.1.2.1
abbrev gC (G : hx_G) : ClassId := G.2.2.1.2.2.1
abbrev gV (G : hx_G) : ClassId := G.2.2.1.2.2.2.1
abbrev gO (G : hx_G) : ClassId := G.2.2.1.2.2.2.2
abbrev gE (G : hx_G) : Nat := G.2.2.2.1.1
abbrev gM (G : hx_G) : Nat := G.2.2.2.1.2.1
abbrev gP (G : hx_G) : Nat := G.2.2.2.1.2.2.1
abbrev gX (G : hx_G) : Nat := G.2.2.2.1.2.2.2.1
abbrev gY (G : hx_G) : Nat := G.2.2.2.1.2.2.2.2
abbrev gA (G : hx_G) : Nat → Prop := G.2.2.2.2
/-- the array classes of references by their kind, and the class that each is over -/
def gR (G : hx_G) (k : Nat) : ClassId := if k = 0 then gC G else if k = 1 then gV G else gO G
def gN (k : Nat) : String := if k = 0 then "TokenHouse$Cell" else if k = 1 then "TokenHouse$Value" else "java/lang/Object"
abbrev gT (G : hx_G) : List (ClassId × FieldType) := [(gI G, .int), (gJ G, .long), (gC G, .object "TokenHouse$Cell"), (gV G, .object "TokenHouse$Value"), (gO G, .object "java/lang/Object")]
/-- a cell of the machine's heap as the pure heap has it -/
abbrev hc_o (G : hx_G) (ci a : Nat) (fs : List Value) (H : Heap) : Prop := va_at (gD G) vwCl (a, .inr (ci, fs)) H
abbrev hc_i (G : hx_G) (a n : Nat) (f : Nat → Int32) (H : Heap) : Prop := H[a]? = some (arrV (gI G) n (fun j => .int (f j)))
abbrev hc_j (G : hx_G) (a n : Nat) (f : Nat → Int64) (H : Heap) : Prop := H[a]? = some (arrV (gJ G) n (fun j => .long (f j)))
abbrev hc_r (G : hx_G) (k a n : Nat) (f : Nat → Option Nat) (H : Heap) : Prop := H[a]? = some (arrV (gR G k) n (fun j => va_rf (f j)))
/-- the object of a list, raw: a list of no capacity has the static empty array -/
abbrev qobj (G : hx_G) (x : List Nat × Nat × Nat × Int32) : List Value := [.int x.2.2.2, .ref (if x.2.1 = 0 then gE G else x.2.2.1), .int (nI x.1.length)]
abbrev hc_q (G : hx_G) (a : Nat) (x : List Nat × Nat × Nat × Int32) (H : Heap) : Prop :=
  hc_o G 0 a (qobj G x) H ∧ x.1.length ≤ x.2.1 ∧ (0 < x.2.1 → hc_r G 2 x.2.2.1 x.2.1 (fun j => x.1[j]?) H)
def Sh (G : hx_G) (M : hx_S) (H : Heap) : Prop :=
  H.size = Sz M ∧
  (∀ (ci a : Nat) (fs : List Value), So M ci a = some fs → Sk M a = ci ∧ ci < 20 ∧ gA G a ∧ hc_o G ci a fs H) ∧
  (∀ (a : Nat) (x : Nat × (Nat → Int32)), Si M a = some x → Sk M a = 20 ∧ gA G a ∧ hc_i G a x.1 x.2 H) ∧
  (∀ (a : Nat) (x : Nat × (Nat → Int64)), Sj M a = some x → Sk M a = 21 ∧ gA G a ∧ hc_j G a x.1 x.2 H) ∧
  (∀ (k a : Nat) (x : Nat × (Nat → Option Nat)), Sr M k a = some x → Sk M a = 22 + k ∧ k < 3 ∧ gA G a ∧ hc_r G k a x.1 x.2 H) ∧
  (∀ (a : Nat) (x : List Nat × Nat × Nat × Int32), Sq M a = some x → Sk M a = 50 ∧ gA G a ∧ hc_q G a x H ∧ (0 < x.2.1 → Sk M x.2.2.1 = 100 + a ∧ gA G x.2.2.1))
section SH
variable {G : hx_G} {M : hx_S} {H H1 : Heap}
theorem Sh.size (h : Sh G M H) : H.size = Sz M := h.1
theorem hc_o.lt {ci a : Nat} {fs : List Value} (h : hc_o G ci a fs H) : a < H.size := va_at.lt h
theorem hc_lt {a : Nat} {c : Cell} (h : H[a]? = some c) : a < H.size := (Array.getElem?_eq_some_iff.mp h).1
theorem hc_o.kept {ci a : Nat} {fs : List Value} (h : hc_o G ci a fs H) (hq : H1[a]? = H[a]?) : hc_o G ci a fs H1 := va_at.kept h hq
theorem hc_q.kept {a : Nat} {x : List Nat × Nat × Nat × Int32} (h : hc_q G a x H) (hq : H1[a]? = H[a]?) (hd : 0 < x.2.1 → H1[x.2.2.1]? = H[x.2.2.1]?) : hc_q G a x H1 := by
  exact ⟨hc_o.kept h.1 hq, h.2.1, fun z => (hd z).trans (h.2.2 z)⟩
/-- one cell changes, all else stays -/
theorem Sh.oset {ci a : Nat} {fs fs1 : List Value} (h : Sh G M H) (h0 : So M ci a = some fs) (hz : H1.size = H.size) (ho : ∀ q, q ≠ a → H1[q]? = H[q]?) (h1 : hc_o G ci a fs1 H1) : Sh G (oput M ci a (some fs1)) H1 := by
  obtain ⟨a1, a2, a3, a4, a5, a6⟩ := h
  obtain ⟨k0, k20, kA, kc⟩ := a2 ci a fs h0
  refine ⟨hz.trans a1, ?_, ?_, ?_, ?_, ?_⟩
  · intro c b gs hb
    rw [So_oput] at hb
    by_cases hc : c = ci ∧ b = a
    · obtain ⟨rfl, rfl⟩ := hc
      rw [if_pos ⟨rfl, rfl⟩] at hb
      cases hb
      exact ⟨k0, k20, kA, h1⟩
    · rw [if_neg hc] at hb
      obtain ⟨q1, q2, q3, q4⟩ := a2 c b gs hb
      refine ⟨q1, q2, q3, hc_o.kept q4 (ho b fun e => hc ⟨?_, e⟩)⟩
      subst e
      exact q1.symm.trans k0
  · intro b x hb
    obtain ⟨q1, q2, q3⟩ := a3 b x hb
    refine ⟨q1, q2, (ho b fun e => ?_).trans q3⟩
    subst e
    have := q1.symm.trans k0
    omega
  · intro b x hb
    obtain ⟨q1, q2, q3⟩ := a4 b x hb
    refine ⟨q1, q2, (ho b fun e => ?_).trans q3⟩
    subst e
    have := q1.symm.trans k0
    omega
  · intro k b x hb
    obtain ⟨q1, q2, q3, q4⟩ := a5 k b x hb
    refine ⟨q1, q2, q3, (ho b fun e => ?_).trans q4⟩
    subst e
    have := q1.symm.trans k0
    omega
  · intro b x hb
    obtain ⟨q1, q2, q3, q4⟩ := a6 b x hb
    refine ⟨q1, q2, hc_q.kept q3 (ho b fun e => ?_) (fun z => ho _ fun e => ?_), q4⟩
    · subst e
      have := q1.symm.trans k0
      omega
    · have := (q4 z).1
      rw [e, k0] at this
      omega
theorem Sh.iset {a : Nat} {x x1 : Nat × (Nat → Int32)} (h : Sh G M H) (h0 : Si M a = some x) (hz : H1.size = H.size) (ho : ∀ q, q ≠ a → H1[q]? = H[q]?) (h1 : hc_i G a x1.1 x1.2 H1) : Sh G (iput M a (some x1)) H1 := by
  obtain ⟨a1, a2, a3, a4, a5, a6⟩ := h
  obtain ⟨k0, kA, kc⟩ := a3 a x h0
  refine ⟨hz.trans a1, ?_, ?_, ?_, ?_, ?_⟩
  · intro c b gs hb
    obtain ⟨q1, q2, q3, q4⟩ := a2 c b gs hb
    refine ⟨q1, q2, q3, hc_o.kept q4 (ho b fun e => ?_)⟩
    subst e
    have := q1.symm.trans k0
    omega
  · intro b y hb
    rw [Si_iput] at hb
    by_cases hc : b = a
    · subst hc
      rw [if_pos rfl] at hb
      cases hb
      exact ⟨k0, kA, h1⟩
    · rw [if_neg hc] at hb
      obtain ⟨q1, q2, q3⟩ := a3 b y hb
      exact ⟨q1, q2, (ho b hc).trans q3⟩
  · intro b y hb
    obtain ⟨q1, q2, q3⟩ := a4 b y hb
    refine ⟨q1, q2, (ho b fun e => ?_).trans q3⟩
    subst e
    have := q1.symm.trans k0
    omega
  · intro k b y hb
    obtain ⟨q1, q2, q3, q4⟩ := a5 k b y hb
    refine ⟨q1, q2, q3, (ho b fun e => ?_).trans q4⟩
    subst e
    have := q1.symm.trans k0
    omega
  · intro b y hb
    obtain ⟨q1, q2, q3, q4⟩ := a6 b y hb
    refine ⟨q1, q2, hc_q.kept q3 (ho b fun e => ?_) (fun z => ho _ fun e => ?_), q4⟩
    · subst e
      have := q1.symm.trans k0
      omega
    · have := (q4 z).1
      rw [e, k0] at this
      omega
theorem Sh.jset {a : Nat} {x x1 : Nat × (Nat → Int64)} (h : Sh G M H) (h0 : Sj M a = some x) (hz : H1.size = H.size) (ho : ∀ q, q ≠ a → H1[q]? = H[q]?) (h1 : hc_j G a x1.1 x1.2 H1) : Sh G (jput M a (some x1)) H1 := by
  obtain ⟨a1, a2, a3, a4, a5, a6⟩ := h
  obtain ⟨k0, kA, kc⟩ := a4 a x h0
  refine ⟨hz.trans a1, ?_, ?_, ?_, ?_, ?_⟩
  · intro c b gs hb
    obtain ⟨q1, q2, q3, q4⟩ := a2 c b gs hb
    refine ⟨q1, q2, q3, hc_o.kept q4 (ho b fun e => ?_)⟩
    subst e
    have := q1.symm.trans k0
    omega
  · intro b y hb
    obtain ⟨q1, q2, q3⟩ := a3 b y hb
    refine ⟨q1, q2, (ho b fun e => ?_).trans q3⟩
    subst e
    have := q1.symm.trans k0
    omega
  · intro b y hb
    rw [Sj_jput] at hb
    by_cases hc : b = a
    · subst hc
      rw [if_pos rfl] at hb
      cases hb
      exact ⟨k0, kA, h1⟩
    · rw [if_neg hc] at hb
      obtain ⟨q1, q2, q3⟩ := a4 b y hb
      exact ⟨q1, q2, (ho b hc).trans q3⟩
  · intro k b y hb
    obtain ⟨q1, q2, q3, q4⟩ := a5 k b y hb
    refine ⟨q1, q2, q3, (ho b fun e => ?_).trans q4⟩
    subst e
    have := q1.symm.trans k0
    omega
  · intro b y hb
    obtain ⟨q1, q2, q3, q4⟩ := a6 b y hb
    refine ⟨q1, q2, hc_q.kept q3 (ho b fun e => ?_) (fun z => ho _ fun e => ?_), q4⟩
    · subst e
      have := q1.symm.trans k0
      omega
    · have := (q4 z).1
      rw [e, k0] at this
      omega
theorem Sh.rset {k a : Nat} {x x1 : Nat × (Nat → Option Nat)} (h : Sh G M H) (h0 : Sr M k a = some x) (hz : H1.size = H.size) (ho : ∀ q, q ≠ a → H1[q]? = H[q]?) (h1 : hc_r G k a x1.1 x1.2 H1) : Sh G (rput M k a (some x1)) H1 := by
  obtain ⟨a1, a2, a3, a4, a5, a6⟩ := h
  obtain ⟨k0, k3, kA, kc⟩ := a5 k a x h0
  refine ⟨hz.trans a1, ?_, ?_, ?_, ?_, ?_⟩
  · intro c b gs hb
    obtain ⟨q1, q2, q3, q4⟩ := a2 c b gs hb
    refine ⟨q1, q2, q3, hc_o.kept q4 (ho b fun e => ?_)⟩
    subst e
    have := q1.symm.trans k0
    omega
  · intro b y hb
    obtain ⟨q1, q2, q3⟩ := a3 b y hb
    refine ⟨q1, q2, (ho b fun e => ?_).trans q3⟩
    subst e
    have := q1.symm.trans k0
    omega
  · intro b y hb
    obtain ⟨q1, q2, q3⟩ := a4 b y hb
    refine ⟨q1, q2, (ho b fun e => ?_).trans q3⟩
    subst e
    have := q1.symm.trans k0
    omega
  · intro c b y hb
    rw [Sr_rput] at hb
    by_cases hc : c = k ∧ b = a
    · obtain ⟨rfl, rfl⟩ := hc
      rw [if_pos ⟨rfl, rfl⟩] at hb
      cases hb
      exact ⟨k0, k3, kA, h1⟩
    · rw [if_neg hc] at hb
      obtain ⟨q1, q2, q3, q4⟩ := a5 c b y hb
      refine ⟨q1, q2, q3, (ho b fun e => hc ⟨?_, e⟩).trans q4⟩
      subst e
      have := q1.symm.trans k0
      omega
  · intro b y hb
    obtain ⟨q1, q2, q3, q4⟩ := a6 b y hb
    refine ⟨q1, q2, hc_q.kept q3 (ho b fun e => ?_) (fun z => ho _ fun e => ?_), q4⟩
    · subst e
      have := q1.symm.trans k0
      omega
    · have := (q4 z).1
      rw [e, k0] at this
      omega
/-- a new cell at the end: the old ones stay -/
theorem Sh.grown {n k : Nat} (h : Sh G M H) (hz : H1.size = H.size + 1) (ho : ∀ q, q < H.size → H1[q]? = H[q]?) : Sh G (grow M n k) H1 := by
  obtain ⟨a1, a2, a3, a4, a5, a6⟩ := h
  have nk : ∀ b, b < H.size → Sk (grow M n k) b = Sk M b := fun b hb => by rw [Sk_grow, if_neg (by omega)]
  refine ⟨by rw [hz, a1]; rfl, ?_, ?_, ?_, ?_, ?_⟩
  · intro c b gs hb
    obtain ⟨q1, q2, q3, q4⟩ := a2 c b gs hb
    have hl := hc_o.lt q4
    exact ⟨(nk b hl).trans q1, q2, q3, hc_o.kept q4 (ho b hl)⟩
  · intro b y hb
    obtain ⟨q1, q2, q3⟩ := a3 b y hb
    exact ⟨(nk b (hc_lt q3)).trans q1, q2, (ho b (hc_lt q3)).trans q3⟩
  · intro b y hb
    obtain ⟨q1, q2, q3⟩ := a4 b y hb
    exact ⟨(nk b (hc_lt q3)).trans q1, q2, (ho b (hc_lt q3)).trans q3⟩
  · intro c b y hb
    obtain ⟨q1, q2, q3, q4⟩ := a5 c b y hb
    exact ⟨(nk b (hc_lt q4)).trans q1, q2, q3, (ho b (hc_lt q4)).trans q4⟩
  · intro b y hb
    obtain ⟨q1, q2, q3, q4⟩ := a6 b y hb
    have hl := hc_o.lt q3.1
    have hd : 0 < y.2.1 → y.2.2.1 < H.size := fun z => hc_lt (q3.2.2 z)
    exact ⟨(nk b hl).trans q1, q2, hc_q.kept q3 (ho b hl) (fun z => ho _ (hd z)), fun z => ⟨(nk _ (hd z)).trans (q4 z).1, (q4 z).2⟩⟩
/-- what stands at an address of no claim is new to all maps -/
theorem Sh.oin {ci a : Nat} {fs : List Value} (h : Sh G M H) (hA : gA G a) (hk : Sk M a = ci) (h20 : ci < 20) (h1 : hc_o G ci a fs H) : Sh G (oput M ci a (some fs)) H := by
  obtain ⟨a1, a2, a3, a4, a5, a6⟩ := h
  refine ⟨a1, ?_, a3, a4, a5, a6⟩
  intro c b gs hb
  rw [So_oput] at hb
  by_cases hc : c = ci ∧ b = a
  · obtain ⟨rfl, rfl⟩ := hc
    rw [if_pos ⟨rfl, rfl⟩] at hb
    cases hb
    exact ⟨hk, h20, hA, h1⟩
  · rw [if_neg hc] at hb
    exact a2 c b gs hb
theorem Sh.iin {a : Nat} {x : Nat × (Nat → Int32)} (h : Sh G M H) (hA : gA G a) (hk : Sk M a = 20) (h1 : hc_i G a x.1 x.2 H) : Sh G (iput M a (some x)) H := by
  obtain ⟨a1, a2, a3, a4, a5, a6⟩ := h
  refine ⟨a1, a2, ?_, a4, a5, a6⟩
  intro b y hb
  rw [Si_iput] at hb
  by_cases hc : b = a
  · subst hc
    rw [if_pos rfl] at hb
    cases hb
    exact ⟨hk, hA, h1⟩
  · rw [if_neg hc] at hb
    exact a3 b y hb
theorem Sh.jin {a : Nat} {x : Nat × (Nat → Int64)} (h : Sh G M H) (hA : gA G a) (hk : Sk M a = 21) (h1 : hc_j G a x.1 x.2 H) : Sh G (jput M a (some x)) H := by
  obtain ⟨a1, a2, a3, a4, a5, a6⟩ := h
  refine ⟨a1, a2, a3, ?_, a5, a6⟩
  intro b y hb
  rw [Sj_jput] at hb
  by_cases hc : b = a
  · subst hc
    rw [if_pos rfl] at hb
    cases hb
    exact ⟨hk, hA, h1⟩
  · rw [if_neg hc] at hb
    exact a4 b y hb
theorem Sh.rin {k a : Nat} {x : Nat × (Nat → Option Nat)} (h : Sh G M H) (hA : gA G a) (hk : Sk M a = 22 + k) (h3 : k < 3) (h1 : hc_r G k a x.1 x.2 H) : Sh G (rput M k a (some x)) H := by
  obtain ⟨a1, a2, a3, a4, a5, a6⟩ := h
  refine ⟨a1, a2, a3, a4, ?_, a6⟩
  intro c b y hb
  rw [Sr_rput] at hb
  by_cases hc : c = k ∧ b = a
  · obtain ⟨rfl, rfl⟩ := hc
    rw [if_pos ⟨rfl, rfl⟩] at hb
    cases hb
    exact ⟨hk, h3, hA, h1⟩
  · rw [if_neg hc] at hb
    exact a5 c b y hb
end SH
/-! what is true of the pure heap by itself: an address has one kind, and lies below the end -/
def Wf (M : hx_S) : Prop :=
  (∀ (ci a : Nat) (fs : List Value), So M ci a = some fs → Sk M a = ci ∧ ci < 20 ∧ a < Sz M) ∧
  (∀ (a : Nat) (x : Nat × (Nat → Int32)), Si M a = some x → Sk M a = 20 ∧ a < Sz M) ∧
  (∀ (a : Nat) (x : Nat × (Nat → Int64)), Sj M a = some x → Sk M a = 21 ∧ a < Sz M) ∧
  (∀ (k a : Nat) (x : Nat × (Nat → Option Nat)), Sr M k a = some x → Sk M a = 22 + k ∧ k < 3 ∧ a < Sz M) ∧
  (∀ (a : Nat) (x : List Nat × Nat × Nat × Int32), Sq M a = some x → Sk M a = 50 ∧ a < Sz M ∧ x.1.length ≤ x.2.1 ∧ (0 < x.2.1 → Sk M x.2.2.1 = 100 + a ∧ x.2.2.1 < Sz M))
section WF
variable {M : hx_S}
theorem Wf.oset {ci a : Nat} {fs fs1 : List Value} (h : Wf M) (h0 : So M ci a = some fs) : Wf (oput M ci a (some fs1)) := by
  obtain ⟨a2, a3, a4, a5, a6⟩ := h
  refine ⟨fun c b gs hb => ?_, a3, a4, a5, a6⟩
  rw [So_oput] at hb
  by_cases hc : c = ci ∧ b = a
  · obtain ⟨rfl, rfl⟩ := hc
    exact a2 _ _ _ h0
  · rw [if_neg hc] at hb
    exact a2 c b gs hb
theorem Wf.iset {a : Nat} {x x1 : Nat × (Nat → Int32)} (h : Wf M) (h0 : Si M a = some x) : Wf (iput M a (some x1)) := by
  obtain ⟨a2, a3, a4, a5, a6⟩ := h
  refine ⟨a2, fun b gs hb => ?_, a4, a5, a6⟩
  rw [Si_iput] at hb
  by_cases hc : b = a
  · subst hc
    exact a3 _ _ h0
  · rw [if_neg hc] at hb
    exact a3 b gs hb
theorem Wf.jset {a : Nat} {x x1 : Nat × (Nat → Int64)} (h : Wf M) (h0 : Sj M a = some x) : Wf (jput M a (some x1)) := by
  obtain ⟨a2, a3, a4, a5, a6⟩ := h
  refine ⟨a2, a3, fun b gs hb => ?_, a5, a6⟩
  rw [Sj_jput] at hb
  by_cases hc : b = a
  · subst hc
    exact a4 _ _ h0
  · rw [if_neg hc] at hb
    exact a4 b gs hb
theorem Wf.rset {k a : Nat} {x x1 : Nat × (Nat → Option Nat)} (h : Wf M) (h0 : Sr M k a = some x) : Wf (rput M k a (some x1)) := by
  obtain ⟨a2, a3, a4, a5, a6⟩ := h
  refine ⟨a2, a3, a4, fun c b gs hb => ?_, a6⟩
  rw [Sr_rput] at hb
  by_cases hc : c = k ∧ b = a
  · obtain ⟨rfl, rfl⟩ := hc
    exact a5 _ _ _ h0
  · rw [if_neg hc] at hb
    exact a5 c b gs hb
theorem Wf.grown {n k : Nat} (h : Wf M) : Wf (grow M n k) := by
  obtain ⟨a2, a3, a4, a5, a6⟩ := h
  have nk : ∀ b, b < Sz M → Sk (grow M n k) b = Sk M b := fun b hb => by rw [Sk_grow, if_neg (by omega)]
  have nz : ∀ b, b < Sz M → b < Sz (grow M n k) := fun b hb => by show b < Sz M + 1; omega
  refine ⟨fun c b gs hb => ?_, fun b x hb => ?_, fun b x hb => ?_, fun c b x hb => ?_, fun b x hb => ?_⟩
  · obtain ⟨q1, q2, q3⟩ := a2 c b gs hb
    exact ⟨(nk b q3).trans q1, q2, nz b q3⟩
  · obtain ⟨q1, q3⟩ := a3 b x hb
    exact ⟨(nk b q3).trans q1, nz b q3⟩
  · obtain ⟨q1, q3⟩ := a4 b x hb
    exact ⟨(nk b q3).trans q1, nz b q3⟩
  · obtain ⟨q1, q2, q3⟩ := a5 c b x hb
    exact ⟨(nk b q3).trans q1, q2, nz b q3⟩
  · obtain ⟨q1, q2, q3, q4⟩ := a6 b x hb
    exact ⟨(nk b q2).trans q1, nz b q2, q3, fun z => ⟨(nk _ (q4 z).2).trans (q4 z).1, nz _ (q4 z).2⟩⟩
theorem Wf.oin {ci a : Nat} {fs : List Value} (h : Wf M) (hk : Sk M a = ci) (h20 : ci < 20) (hz : a < Sz M) : Wf (oput M ci a (some fs)) := by
  obtain ⟨a2, a3, a4, a5, a6⟩ := h
  refine ⟨fun c b gs hb => ?_, a3, a4, a5, a6⟩
  rw [So_oput] at hb
  by_cases hc : c = ci ∧ b = a
  · obtain ⟨rfl, rfl⟩ := hc
    exact ⟨hk, h20, hz⟩
  · rw [if_neg hc] at hb
    exact a2 c b gs hb
theorem Wf.iin {a : Nat} {x : Nat × (Nat → Int32)} (h : Wf M) (hk : Sk M a = 20) (hz : a < Sz M) : Wf (iput M a (some x)) := by
  obtain ⟨a2, a3, a4, a5, a6⟩ := h
  refine ⟨a2, fun b gs hb => ?_, a4, a5, a6⟩
  rw [Si_iput] at hb
  by_cases hc : b = a
  · subst hc
    exact ⟨hk, hz⟩
  · rw [if_neg hc] at hb
    exact a3 b gs hb
theorem Wf.jin {a : Nat} {x : Nat × (Nat → Int64)} (h : Wf M) (hk : Sk M a = 21) (hz : a < Sz M) : Wf (jput M a (some x)) := by
  obtain ⟨a2, a3, a4, a5, a6⟩ := h
  refine ⟨a2, a3, fun b gs hb => ?_, a5, a6⟩
  rw [Sj_jput] at hb
  by_cases hc : b = a
  · subst hc
    exact ⟨hk, hz⟩
  · rw [if_neg hc] at hb
    exact a4 b gs hb
theorem Wf.rin {k a : Nat} {x : Nat × (Nat → Option Nat)} (h : Wf M) (hk : Sk M a = 22 + k) (h3 : k < 3) (hz : a < Sz M) : Wf (rput M k a (some x)) := by
  obtain ⟨a2, a3, a4, a5, a6⟩ := h
  refine ⟨a2, a3, a4, fun c b gs hb => ?_, a6⟩
  rw [Sr_rput] at hb
  by_cases hc : c = k ∧ b = a
  · obtain ⟨rfl, rfl⟩ := hc
    exact ⟨hk, h3, hz⟩
  · rw [if_neg hc] at hb
    exact a5 c b gs hb
theorem Wf.newo {ci n : Nat} {fs : List Value} (h : Wf M) (h20 : ci < 20) : Wf (oput (grow M n ci) ci (Sz M) (some fs)) := Wf.oin (Wf.grown h) (by rw [Sk_grow, if_pos rfl]) h20 (by show Sz M < Sz M + 1; omega)
theorem Wf.newi {n : Nat} {x : Nat × (Nat → Int32)} (h : Wf M) : Wf (iput (grow M n 20) (Sz M) (some x)) := Wf.iin (Wf.grown h) (by rw [Sk_grow, if_pos rfl]) (by show Sz M < Sz M + 1; omega)
theorem Wf.newj {n : Nat} {x : Nat × (Nat → Int64)} (h : Wf M) : Wf (jput (grow M n 21) (Sz M) (some x)) := Wf.jin (Wf.grown h) (by rw [Sk_grow, if_pos rfl]) (by show Sz M < Sz M + 1; omega)
theorem Wf.newr {n k : Nat} {x : Nat × (Nat → Option Nat)} (h : Wf M) (h3 : k < 3) : Wf (rput (grow M n (22 + k)) k (Sz M) (some x)) := Wf.rin (Wf.grown h) (by rw [Sk_grow, if_pos rfl]) h3 (by show Sz M < Sz M + 1; omega)
end WF
end
section
/-! THE JUDGEMENT OVER THE PURE HEAP. KS: what the tables and the statics say, carried along -/
def tabP : List Int32 := [1, 2, 2, 2, 2, 2, 1, 2, 1, 1, 1, 1, 1, 1, 1, 2, 3, 1]
def tabX : List Int32 := [0, 2, 2, 2, 2, 2, 1, 0, 0, 0, 0, 0, 0, 0, 2, 3, 3, 0]
def tabY : List Int32 := [0, 2, 2, 2, 2, 2, 0, 0, 0, 0, 0, 0, 0, 0, 0, 2, 2, 0]
def ks_T (G : hx_G) (n : String) (t : Nat) (tab : List Int32) (U : State) (H : Heap) : Prop := va_Z RX9 n "[I" (.ref t) (gA G) U H ∧ va_T .int t 18 (fun j => .int (tab.getD j 0)) (gA G) U H
def KS (G : hx_G) (U : State) : Prop :=
  va_K (gD G) vwCl (gT G) U ∧ (∀ q, U.heap.size ≤ q → gA G q) ∧
  (va_AO "java/lang/Object" U ∧ va_AO "TokenHouse$Value" U ∧ va_AO "TokenHouse$Cell" U) ∧
  (va_Nw (.castable RX0 "java/lang/Object") U ∧ va_Nw (.castable RX4 "java/lang/Object") U ∧ va_Nw (.castable RX6 "java/lang/Object") U ∧ va_Nw (.castable RX7 "java/lang/Object") U) ∧
  (va_Mi "[Ljava/lang/Object;" (gM G) U ∧ va_Dc U) ∧
  (va_Z RJx4a65c "DEFAULTCAPACITY_EMPTY_ELEMENTDATA" "[Ljava/lang/Object;" (.ref (gE G)) (gA G) U U.heap ∧ va_T (.object "java/lang/Object") (gE G) 0 (fun _ => .null) (gA G) U U.heap) ∧
  ks_T G "PORTS" (gP G) tabP U U.heap ∧ ks_T G "WANTED_X" (gX G) tabX U U.heap ∧ ks_T G "WANTED_Y" (gY G) tabY U U.heap
theorem ks_T.go {G : hx_G} {n : String} {t : Nat} {tab : List Int32} {u U : State} {H H1 : Heap} (hvm : u.vm.Alike U.vm) (hq : ∀ a : Nat, a < H.size → ¬ gA G a → H1[a]? = H[a]?) (h : ks_T G n t tab u H) : ks_T G n t tab U H1 := ⟨(h.1.moved hvm).kept hq, (h.2.moved hvm).kept hq⟩
theorem KS.go {G : hx_G} {s t : State} (h : KS G s) (hW : s.WarmedH t.vm) (hz : s.heap.size ≤ t.heap.size) (hq : ∀ a : Nat, a < s.heap.size → ¬ gA G a → t.heap[a]? = s.heap[a]?) : KS G t := by
  obtain ⟨h1, h2, ⟨h3, h4, h5⟩, ⟨h6, h7, h8, h9⟩, ⟨h10, h11⟩, ⟨h12, h13⟩, h14, h15, h16⟩ := h
  have hvm := hW.alike
  exact ⟨h1.moved hvm, fun q hq => h2 q (Nat.le_trans hz hq), ⟨h3.moved hvm, h4.moved hvm, h5.moved hvm⟩, ⟨h6.warmC hW, h7.warmC hW, h8.warmC hW, h9.warmC hW⟩, ⟨h10.moved hvm, h11.moved hvm⟩, ⟨(h12.moved hvm).kept hq, (h13.moved hvm).kept hq⟩, h14.go hvm hq, h15.go hvm hq, h16.go hvm hq⟩
theorem KS.same {G : hx_G} {s t : State} (h : KS G s) (hv : t.vm = s.vm) (hh : t.heap = s.heap) : KS G t := by
  obtain ⟨h1, h2, ⟨h3, h4, h5⟩, ⟨h6, h7, h8, h9⟩, ⟨h10, h11⟩, ⟨h12, h13⟩, h14, h15, h16⟩ := h
  have hvm : s.vm.Alike t.vm := by rw [hv]; exact Vm.Alike.refl s.vm
  have hq : ∀ a : Nat, a < s.heap.size → ¬ gA G a → t.heap[a]? = s.heap[a]? := fun a _ _ => by rw [hh]
  exact ⟨h1.moved hvm, fun q hq => h2 q (by rw [← hh]; exact hq), ⟨h3.moved hvm, h4.moved hvm, h5.moved hvm⟩, ⟨va_Nw.same rfl hv.symm h6, va_Nw.same rfl hv.symm h7, va_Nw.same rfl hv.symm h8, va_Nw.same rfl hv.symm h9⟩, ⟨h10.moved hvm, h11.moved hvm⟩, ⟨(h12.moved hvm).kept hq, (h13.moved hvm).kept hq⟩, h14.go hvm hq, h15.go hvm hq, h16.go hvm hq⟩
/-- a method: its name, code, locals, type -/
abbrev hx_M : Type := MethodName × ByteArray × Nat × Option FieldType
abbrev hx_w (q : hx_M) : List Cond := Cond.code q.1 q.2.1 q.2.2.1 q.2.2.2 :: TW
abbrev hx_rm (d lo : Nat) (M M1 : hx_S) : Room := { frames := d, cells := Sz M1 - Sz M, slots := Sl M1 - Sl M, locals := lo }
def hx_Pre (G : hx_G) (M : hx_S) (U : State) : Prop := Sh G M U.heap ∧ KS G U
def hx_Q (G : hx_G) (M1 : hx_S) (r : Option Value) : Array Value → State → Outcome → State → Prop := fun _ st oc t => oc = .returned r ∧ hx_Pre G M1 t ∧ va_F (gA G) st t
/-- the contract of a method at these arguments and this pure heap: it returns, and P holds of the answer and the pure heap behind it; d frames, lo words of locals are enough -/
def CT (G : hx_G) (d lo : Nat) (q : hx_M) (As : List Value) (M : hx_S) (P : Option Value → hx_S → Prop) : Prop :=
  Wf M → ∃ (r : Option Value) (M1 : hx_S), P r M1 ∧ hle M M1 ∧ Wf M1 ∧ Met (gL G) q.1 (hx_w q) (hx_rm d lo M M1) (va_Pc As (fun U => hx_Pre G M U)) (hx_Q G M1 r) (Sz M1 - Sz M) (Sl M1 - Sl M) (gA G)
def hx_C (G : hx_G) (q : hx_M) (M0 : hx_S) (p : Program) (s : State) (m : MethodId) (args : Array Value) (meth : Method) (c : Code) : Prop :=
  p.tables.exec = Jvm.exec ∧ c.code = q.2.1 ∧ c.maxLocals = q.2.2.1 ∧ meth.sig.returnType = q.2.2.2 ∧ (∀ w ∈ hx_w q, w.before args s = true) ∧ s.vm.findClass q.1.cls = some m.cls ∧ meth.locks = false ∧ meth.name = q.1.name ∧ KS G s ∧ s.heap.size = Sz M0
/-- the walk: from pc with these locals and this stack over the pure heap M, the method (begun over M0) comes to its return with P -/
def XW (G : hx_G) (d lo : Nat) (q : hx_M) (As : List Value) (M0 : hx_S) (P : Option Value → hx_S → Prop) (M : hx_S) (pc : Nat) (L : List (Nat × Value)) (st : List Value) : Prop :=
  hle M0 M → Wf M → ∃ (r : Option Value) (M1 : hx_S), P r M1 ∧ hle M M1 ∧ Wf M1 ∧
    ∀ (p : Program) (e : Env) (s : State) (m : MethodId) (below : List Frame) (meth : Method) (c : Code), hx_C G q M0 p s m As.toArray meth c →
      ∀ (H : Heap) (locs : List Loc) (ls : Array Slot), Sh G M H → va_S (gA G) s.heap H locs → lv_has ls q.2.2.1 L →
        W p (gL G) e (hx_rm d lo M0 M1) s m As.toArray below meth c H locs (Sz M - Sz M0) (Sl M - Sl M0) (MQ below (hx_Q G M1 r) As.toArray s (Sz M1 - Sz M0) (Sl M1 - Sl M0) (gA G)) (F0 m pc ls st)
section XWs
variable {G : hx_G} {d lo : Nat} {q : hx_M} {As : List Value} {M0 M M2 : hx_S} {P : Option Value → hx_S → Prop} {pc pc2 : Nat} {L L2 : List (Nat × Value)} {st st2 : List Value}
/-- the contract out of the walk -/
theorem ct_of (hy : plainName q.1.cls = true) (hn : (lg_sl As).length ≤ q.2.2.1) (h : XW G d lo q As M P M 0 (lv_args 0 As) []) : CT G d lo q As M P := by
  intro hwf
  obtain ⟨r, M1, hP, hle1, hwf1, h⟩ := h (hle.rf M) hwf
  refine ⟨r, M1, hP, hle1, hwf1, ?_⟩
  refine Met.ofW (cc := q.2.1) (maxL := q.2.2.1) (ret := q.2.2.2) hy rfl ?_
  intro p e s m args below meth c s₁ B hml hv
  obtain ⟨rfl, hSh, hKS⟩ := hv
  have hl := lv_entry As (n := q.2.2.1) hn
  rw [lg_entry_eq]
  generalize (lg_sl As ++ List.replicate (q.2.2.1 - (lg_sl As).length) Slot.unset).toArray = ls at hl ⊢
  have C : hx_C G q M p s m As.toArray meth c := ⟨B.exec, B.bytes, hml, B.returns, atoms_spec (ws := hx_w q) B.pre, findClass_of_methodNamed B.named, B.notSynchronized, (name_of_methodNamed B.named B.method).1, hKS, hSh.1⟩
  have k := h p e s m below meth c C s.heap [] ls hSh va_S.rf hl
  rw [Nat.sub_self, Nat.sub_self] at k
  exact k
theorem ct_mono {Pa Pb : Option Value → hx_S → Prop} (h : CT G d lo q As M Pa) (k : ∀ r M1, Pa r M1 → Pb r M1) : CT G d lo q As M Pb := by
  intro hwf
  obtain ⟨r, M1, a, b, c⟩ := h hwf
  exact ⟨r, M1, k r M1 a, b, c⟩
theorem ct_wf {Pa : Option Value → hx_S → Prop} (h : Wf M → CT G d lo q As M Pa) : CT G d lo q As M Pa := fun hwf => h hwf hwf
theorem xw_wf (h : Wf M → XW G d lo q As M0 P M pc L st) : XW G d lo q As M0 P M pc L st := fun h0 hwf => h hwf h0 hwf
theorem xw_le (h : hle M0 M → XW G d lo q As M0 P M pc L st) : XW G d lo q As M0 P M pc L st := fun h0 hwf => h h0 h0 hwf
/-- an instruction that leaves the heap alone -/
theorem xw_g (h : ∀ (p : Program) (e : Env) (R : Room) (s : State) (m : MethodId) (below : List Frame) (meth : Method) (c : Code) (Q : State → Prop) (k n : Nat), hx_C G q M0 p s m As.toArray meth c → d = R.frames → lo = R.locals →
      ∀ (H : Heap) (locs : List Loc) (ls : Array Slot), Sh G M H → va_S (gA G) s.heap H locs → lv_has ls q.2.2.1 L →
        (∀ ls2 : Array Slot, lv_has ls2 q.2.2.1 L2 → W p (gL G) e R s m As.toArray below meth c H locs k n Q (F0 m pc2 ls2 st2)) → W p (gL G) e R s m As.toArray below meth c H locs k n Q (F0 m pc ls st))
    (k : XW G d lo q As M0 P M pc2 L2 st2) : XW G d lo q As M0 P M pc L st := by
  intro h0 hwf
  obtain ⟨r, M1, hP, hl1, hwf1, k⟩ := k h0 hwf
  refine ⟨r, M1, hP, hl1, hwf1, fun p e s m below meth c C H locs ls hS hV hl => ?_⟩
  exact h p e _ s m below meth c _ _ _ C rfl rfl H locs ls hS hV hl (fun ls2 hl2 => k p e s m below meth c C H locs ls2 hS hV hl2)
/-- the same by the machine and the code alone -/
theorem xw_s (h : ∀ (p : Program) (e : Env) (R : Room) (s : State) (m : MethodId) (below : List Frame) (meth : Method) (c : Code) (Q : State → Prop) (k n : Nat) (H : Heap) (locs : List Loc) (ls : Array Slot), p.tables.exec = Jvm.exec → c.code = q.2.1 → lv_has ls q.2.2.1 L →
        (∀ ls2 : Array Slot, lv_has ls2 q.2.2.1 L2 → W p (gL G) e R s m As.toArray below meth c H locs k n Q (F0 m pc2 ls2 st2)) → W p (gL G) e R s m As.toArray below meth c H locs k n Q (F0 m pc ls st))
    (k : XW G d lo q As M0 P M pc2 L2 st2) : XW G d lo q As M0 P M pc L st :=
  xw_g (fun p e R s m below meth c Q k n C _ _ H locs ls _ _ hl kk => h p e R s m below meth c Q k n H locs ls C.1 C.2.1 hl kk) k
/-- what a local holds -/
def lk (L : List (Nat × Value)) (i : Nat) : Option Value := (L.find? (fun x => x.1 == i)).map (fun x => x.2)
theorem lk_in {L : List (Nat × Value)} {i : Nat} {v : Value} (h : lk L i = some v) : (i, v) ∈ L := by
  unfold lk at h
  cases hf : L.find? (fun x => x.1 == i) with
  | none => rw [hf] at h; cases h
  | some x =>
    rw [hf] at h
    have h1 := List.find?_some hf
    have h2 := List.mem_of_find?_eq_some hf
    simp at h h1
    rw [← h, ← h1]
    exact h2
theorem lv_lk {ls : Array Slot} {nL i : Nat} {v : Value} (h : lv_has ls nL L) (hk : lk L i = some v) : ls[i]? = some (.val v) := h.2.2 _ (lk_in hk)
/-- storing into a local -/
def st1 (L : List (Nat × Value)) (i : Nat) (v : Value) : List (Nat × Value) := (i, v) :: L.filter (fun q => !(q.1 == i) && !(q.1 + 1 == i && q.2.category == 2))
def st2l (L : List (Nat × Value)) (i : Nat) (v : Value) : List (Nat × Value) := (i, v) :: L.filter (fun q => !(q.1 == i) && (!(q.1 == i + 1) && !(q.1 + 1 == i && q.2.category == 2)))
end XWs
end
section
/-! A ROW AN INSTRUCTION, OVER THE PURE HEAP: what leaves the heap alone -/
section XR1
variable {G : hx_G} {d lo : Nat} {q : hx_M} {As : List Value} {M0 M : hx_S} {P : Option Value → hx_S → Prop} {pc : Nat} {L : List (Nat × Value)} {st : List Value}
theorem xw_iconst {n : Int} {v : Int32} (hd : decode q.2.1 pc = .ok (.iconst n, 1)) (hv : Int32.ofInt n = v) (k : XW G d lo q As M0 P M (pc + 1) L (.int v :: st)) : XW G d lo q As M0 P M pc L (st) := xw_s (fun p e R s m below meth c Q k n H locs ls hx hb hl kk => lv_iconst hx hb hd hv (kk ls hl)) k
theorem xw_bipush {n : Int} {v : Int32} (hd : decode q.2.1 pc = .ok (.bipush n, 2)) (hv : (Int8.ofInt n).toInt32 = v) (k : XW G d lo q As M0 P M (pc + 2) L (.int v :: st)) : XW G d lo q As M0 P M pc L (st) := xw_s (fun p e R s m below meth c Q k n H locs ls hx hb hl kk => lv_bipush hx hb hd hv (kk ls hl)) k
theorem xw_sipush {n : Int} {v : Int32} (hd : decode q.2.1 pc = .ok (.sipush n, 3)) (hv : (Int16.ofInt n).toInt32 = v) (k : XW G d lo q As M0 P M (pc + 3) L (.int v :: st)) : XW G d lo q As M0 P M pc L (st) := xw_s (fun p e R s m below meth c Q k n H locs ls hx hb hl kk => lv_sipush hx hb hd hv (kk ls hl)) k
theorem xw_lconst {n : Fin 2} {v : Int64} (hd : decode q.2.1 pc = .ok (.lconst n, 1)) (hv : Int64.ofNat (n : Nat) = v) (k : XW G d lo q As M0 P M (pc + 1) L (.long v :: st)) : XW G d lo q As M0 P M pc L (st) := xw_s (fun p e R s m below meth c Q k n H locs ls hx hb hl kk => lv_lconst hx hb hd hv (kk ls hl)) k
theorem xw_null (hd : decode q.2.1 pc = .ok (.aconst_null, 1)) (k : XW G d lo q As M0 P M (pc + 1) L (.null :: st)) : XW G d lo q As M0 P M pc L (st) := xw_s (fun p e R s m below meth c Q k n H locs ls hx hb hl kk => lv_null hx hb hd (kk ls hl)) k
theorem xw_iload_n {k : Fin 4} {i : Nat} {x : Int32} (hd : decode q.2.1 pc = .ok (.iload_n k, 1)) (hi : (k : Nat) = i) (h : lk L i = some (.int x)) (k : XW G d lo q As M0 P M (pc + 1) L (.int x :: st)) : XW G d lo q As M0 P M pc L (st) := xw_s (fun p e R s m below meth c Q k n H locs ls hx hb hl kk => lv_iload_n hx hb hd hi (lv_lk hl h) (kk ls hl)) k
theorem xw_iload {i : Nat} {x : Int32} (hd : decode q.2.1 pc = .ok (.iload i, 2)) (h : lk L i = some (.int x)) (k : XW G d lo q As M0 P M (pc + 2) L (.int x :: st)) : XW G d lo q As M0 P M pc L (st) := xw_s (fun p e R s m below meth c Q k n H locs ls hx hb hl kk => lv_iload hx hb hd (lv_lk hl h) (kk ls hl)) k
theorem xw_lload_n {k : Fin 4} {i : Nat} {x : Int64} (hd : decode q.2.1 pc = .ok (.lload_n k, 1)) (hi : (k : Nat) = i) (h : lk L i = some (.long x)) (k : XW G d lo q As M0 P M (pc + 1) L (.long x :: st)) : XW G d lo q As M0 P M pc L (st) := xw_s (fun p e R s m below meth c Q k n H locs ls hx hb hl kk => lv_lload_n hx hb hd hi (lv_lk hl h) (kk ls hl)) k
theorem xw_lload {i : Nat} {x : Int64} (hd : decode q.2.1 pc = .ok (.lload i, 2)) (h : lk L i = some (.long x)) (k : XW G d lo q As M0 P M (pc + 2) L (.long x :: st)) : XW G d lo q As M0 P M pc L (st) := xw_s (fun p e R s m below meth c Q k n H locs ls hx hb hl kk => lv_lload hx hb hd (lv_lk hl h) (kk ls hl)) k
theorem xw_aload_n {k : Fin 4} {i : Nat} {x : Nat} (hd : decode q.2.1 pc = .ok (.aload_n k, 1)) (hi : (k : Nat) = i) (h : lk L i = some (.ref x)) (k : XW G d lo q As M0 P M (pc + 1) L (.ref x :: st)) : XW G d lo q As M0 P M pc L (st) := xw_s (fun p e R s m below meth c Q k n H locs ls hx hb hl kk => lv_aload_n hx hb hd hi (lv_lk hl h) (kk ls hl)) k
theorem xw_aload {i : Nat} {x : Nat} (hd : decode q.2.1 pc = .ok (.aload i, 2)) (h : lk L i = some (.ref x)) (k : XW G d lo q As M0 P M (pc + 2) L (.ref x :: st)) : XW G d lo q As M0 P M pc L (st) := xw_s (fun p e R s m below meth c Q k n H locs ls hx hb hl kk => lv_aload hx hb hd (lv_lk hl h) (kk ls hl)) k
theorem xw_aload_nN {k : Fin 4} {i : Nat} (hd : decode q.2.1 pc = .ok (.aload_n k, 1)) (hi : (k : Nat) = i) (h : lk L i = some .null) (k : XW G d lo q As M0 P M (pc + 1) L (.null :: st)) : XW G d lo q As M0 P M pc L (st) := xw_s (fun p e R s m below meth c Q k n H locs ls hx hb hl kk => lv_aload_nN hx hb hd hi (lv_lk hl h) (kk ls hl)) k
theorem xw_aloadN {i : Nat} (hd : decode q.2.1 pc = .ok (.aload i, 2)) (h : lk L i = some .null) (k : XW G d lo q As M0 P M (pc + 2) L (.null :: st)) : XW G d lo q As M0 P M pc L (st) := xw_s (fun p e R s m below meth c Q k n H locs ls hx hb hl kk => lv_aloadN hx hb hd (lv_lk hl h) (kk ls hl)) k
theorem xw_iadd {x y : Int32} (hd : decode q.2.1 pc = .ok (.iadd, 1)) (k : XW G d lo q As M0 P M (pc + 1) L (.int (x + y) :: st)) : XW G d lo q As M0 P M pc L (.int y :: .int x :: st) := xw_s (fun p e R s m below meth c Q k n H locs ls hx hb hl kk => lv_iadd hx hb hd (kk ls hl)) k
theorem xw_isub {x y : Int32} (hd : decode q.2.1 pc = .ok (.isub, 1)) (k : XW G d lo q As M0 P M (pc + 1) L (.int (x - y) :: st)) : XW G d lo q As M0 P M pc L (.int y :: .int x :: st) := xw_s (fun p e R s m below meth c Q k n H locs ls hx hb hl kk => lv_isub hx hb hd (kk ls hl)) k
theorem xw_imul {x y : Int32} (hd : decode q.2.1 pc = .ok (.imul, 1)) (k : XW G d lo q As M0 P M (pc + 1) L (.int (x * y) :: st)) : XW G d lo q As M0 P M pc L (.int y :: .int x :: st) := xw_s (fun p e R s m below meth c Q k n H locs ls hx hb hl kk => lv_imul hx hb hd (kk ls hl)) k
theorem xw_iand {x y : Int32} (hd : decode q.2.1 pc = .ok (.iand, 1)) (k : XW G d lo q As M0 P M (pc + 1) L (.int (x &&& y) :: st)) : XW G d lo q As M0 P M pc L (.int y :: .int x :: st) := xw_s (fun p e R s m below meth c Q k n H locs ls hx hb hl kk => lv_iand hx hb hd (kk ls hl)) k
theorem xw_ior {x y : Int32} (hd : decode q.2.1 pc = .ok (.ior, 1)) (k : XW G d lo q As M0 P M (pc + 1) L (.int (x ||| y) :: st)) : XW G d lo q As M0 P M pc L (.int y :: .int x :: st) := xw_s (fun p e R s m below meth c Q k n H locs ls hx hb hl kk => lv_ior hx hb hd (kk ls hl)) k
theorem xw_ixor {x y : Int32} (hd : decode q.2.1 pc = .ok (.ixor, 1)) (k : XW G d lo q As M0 P M (pc + 1) L (.int (x ^^^ y) :: st)) : XW G d lo q As M0 P M pc L (.int y :: .int x :: st) := xw_s (fun p e R s m below meth c Q k n H locs ls hx hb hl kk => lv_ixor hx hb hd (kk ls hl)) k
theorem xw_ladd {x y : Int64} (hd : decode q.2.1 pc = .ok (.ladd, 1)) (k : XW G d lo q As M0 P M (pc + 1) L (.long (x + y) :: st)) : XW G d lo q As M0 P M pc L (.long y :: .long x :: st) := xw_s (fun p e R s m below meth c Q k n H locs ls hx hb hl kk => lv_ladd hx hb hd (kk ls hl)) k
theorem xw_lsub {x y : Int64} (hd : decode q.2.1 pc = .ok (.lsub, 1)) (k : XW G d lo q As M0 P M (pc + 1) L (.long (x - y) :: st)) : XW G d lo q As M0 P M pc L (.long y :: .long x :: st) := xw_s (fun p e R s m below meth c Q k n H locs ls hx hb hl kk => lv_lsub hx hb hd (kk ls hl)) k
theorem xw_lmul {x y : Int64} (hd : decode q.2.1 pc = .ok (.lmul, 1)) (k : XW G d lo q As M0 P M (pc + 1) L (.long (x * y) :: st)) : XW G d lo q As M0 P M pc L (.long y :: .long x :: st) := xw_s (fun p e R s m below meth c Q k n H locs ls hx hb hl kk => lv_lmul hx hb hd (kk ls hl)) k
theorem xw_land {x y : Int64} (hd : decode q.2.1 pc = .ok (.land, 1)) (k : XW G d lo q As M0 P M (pc + 1) L (.long (x &&& y) :: st)) : XW G d lo q As M0 P M pc L (.long y :: .long x :: st) := xw_s (fun p e R s m below meth c Q k n H locs ls hx hb hl kk => lv_land hx hb hd (kk ls hl)) k
theorem xw_lor {x y : Int64} (hd : decode q.2.1 pc = .ok (.lor, 1)) (k : XW G d lo q As M0 P M (pc + 1) L (.long (x ||| y) :: st)) : XW G d lo q As M0 P M pc L (.long y :: .long x :: st) := xw_s (fun p e R s m below meth c Q k n H locs ls hx hb hl kk => lv_lor hx hb hd (kk ls hl)) k
theorem xw_ldiv {x y : Int64} (hd : decode q.2.1 pc = .ok (.ldiv, 1)) (hne : ¬ y = 0) (k : XW G d lo q As M0 P M (pc + 1) L (.long (x / y) :: st)) : XW G d lo q As M0 P M pc L (.long y :: .long x :: st) := xw_s (fun p e R s m below meth c Q k n H locs ls hx hb hl kk => lv_ldiv hx hb hd hne (kk ls hl)) k
theorem xw_lrem {x y : Int64} (hd : decode q.2.1 pc = .ok (.lrem, 1)) (hne : ¬ y = 0) (k : XW G d lo q As M0 P M (pc + 1) L (.long (x - x / y * y) :: st)) : XW G d lo q As M0 P M pc L (.long y :: .long x :: st) := xw_s (fun p e R s m below meth c Q k n H locs ls hx hb hl kk => lv_lrem hx hb hd hne (kk ls hl)) k
theorem xw_lneg {x : Int64} (hd : decode q.2.1 pc = .ok (.lneg, 1)) (k : XW G d lo q As M0 P M (pc + 1) L (.long (-x) :: st)) : XW G d lo q As M0 P M pc L (.long x :: st) := xw_s (fun p e R s m below meth c Q k n H locs ls hx hb hl kk => lv_lneg hx hb hd (kk ls hl)) k
theorem xw_i2l {x : Int32} (hd : decode q.2.1 pc = .ok (.i2l, 1)) (k : XW G d lo q As M0 P M (pc + 1) L (.long x.toInt64 :: st)) : XW G d lo q As M0 P M pc L (.int x :: st) := xw_s (fun p e R s m below meth c Q k n H locs ls hx hb hl kk => lv_i2l hx hb hd rfl (kk ls hl)) k
theorem xw_l2i {x : Int64} (hd : decode q.2.1 pc = .ok (.l2i, 1)) (k : XW G d lo q As M0 P M (pc + 1) L (.int x.toInt32 :: st)) : XW G d lo q As M0 P M pc L (.long x :: st) := xw_s (fun p e R s m below meth c Q k n H locs ls hx hb hl kk => lv_l2i hx hb hd rfl (kk ls hl)) k
theorem xw_lushr {x : Int64} {y : Int32} (hd : decode q.2.1 pc = .ok (.lushr, 1)) (k : XW G d lo q As M0 P M (pc + 1) L (.long (x.toUInt64 >>> (y.toInt64.toUInt64 &&& Int64.toUInt64 63)).toInt64 :: st)) : XW G d lo q As M0 P M pc L (.int y :: .long x :: st) := xw_s (fun p e R s m below meth c Q k n H locs ls hx hb hl kk => lv_lushr hx hb hd rfl (kk ls hl)) k
theorem xw_lshl {x : Int64} {y : Int32} (hd : decode q.2.1 pc = .ok (.lshl, 1)) (k : XW G d lo q As M0 P M (pc + 1) L (.long (x <<< (y.toInt64 &&& 63)) :: st)) : XW G d lo q As M0 P M pc L (.int y :: .long x :: st) := xw_s (fun p e R s m below meth c Q k n H locs ls hx hb hl kk => lv_lshl hx hb hd rfl (kk ls hl)) k
theorem xw_lcmp {x y : Int64} (hd : decode q.2.1 pc = .ok (.lcmp, 1)) (k : XW G d lo q As M0 P M (pc + 1) L (.int (lg_cmp x y) :: st)) : XW G d lo q As M0 P M pc L (.long y :: .long x :: st) := xw_s (fun p e R s m below meth c Q k n H locs ls hx hb hl kk => W.lcmp hx hb hd (kk ls hl)) k
theorem xw_dup {va : Value} (hd : decode q.2.1 pc = .ok (.dup, 1)) (hva : va.category = 1) (k : XW G d lo q As M0 P M (pc + 1) L (va :: va :: st)) : XW G d lo q As M0 P M pc L (va :: st) := xw_s (fun p e R s m below meth c Q k n H locs ls hx hb hl kk => lv_dup hx hb hd hva (kk ls hl)) k
theorem xw_pop {va : Value} (hd : decode q.2.1 pc = .ok (.pop, 1)) (hva : va.category = 1) (k : XW G d lo q As M0 P M (pc + 1) L (st)) : XW G d lo q As M0 P M pc L (va :: st) := xw_s (fun p e R s m below meth c Q k n H locs ls hx hb hl kk => lv_pop hx hb hd hva (kk ls hl)) k
theorem xw_dup_x1 {va vb : Value} (hd : decode q.2.1 pc = .ok (.dup_x1, 1)) (hva : va.category = 1) (hvb : vb.category = 1) (k : XW G d lo q As M0 P M (pc + 1) L (va :: vb :: va :: st)) : XW G d lo q As M0 P M pc L (va :: vb :: st) := xw_s (fun p e R s m below meth c Q k n H locs ls hx hb hl kk => lv_dup_x1 hx hb hd hva hvb (kk ls hl)) k
theorem xw_dup2_11 {va vb : Value} (hd : decode q.2.1 pc = .ok (.dup2, 1)) (hva : va.category = 1) (hvb : vb.category = 1) (k : XW G d lo q As M0 P M (pc + 1) L (va :: vb :: va :: vb :: st)) : XW G d lo q As M0 P M pc L (va :: vb :: st) := xw_s (fun p e R s m below meth c Q k n H locs ls hx hb hl kk => lv_dup2_11 hx hb hd hva hvb (kk ls hl)) k
theorem xw_istore_n {k : Fin 4} {i : Nat} {x : Int32} {L2 : List (Nat × Value)} (hd : decode q.2.1 pc = .ok (.istore_n k, 1)) (hi : (k : Nat) = i) (hn : i < q.2.2.1) (h : st1 L i (.int x) = L2) (k : XW G d lo q As M0 P M (pc + 1) L2 st) : XW G d lo q As M0 P M pc L (.int x :: st) := xw_s (fun p e R s m below meth c Q k n H locs ls hx hb hl kk => lv_istore_n hx hb hd hi hl hn h kk) k
theorem xw_istore {i : Nat} {x : Int32} {L2 : List (Nat × Value)} (hd : decode q.2.1 pc = .ok (.istore i, 2)) (hn : i < q.2.2.1) (h : st1 L i (.int x) = L2) (k : XW G d lo q As M0 P M (pc + 2) L2 st) : XW G d lo q As M0 P M pc L (.int x :: st) := xw_s (fun p e R s m below meth c Q k n H locs ls hx hb hl kk => lv_istore hx hb hd hl hn h kk) k
theorem xw_astore_n {k : Fin 4} {i : Nat} {x : Nat} {L2 : List (Nat × Value)} (hd : decode q.2.1 pc = .ok (.astore_n k, 1)) (hi : (k : Nat) = i) (hn : i < q.2.2.1) (h : st1 L i (.ref x) = L2) (k : XW G d lo q As M0 P M (pc + 1) L2 st) : XW G d lo q As M0 P M pc L (.ref x :: st) := xw_s (fun p e R s m below meth c Q k n H locs ls hx hb hl kk => lv_astore_n hx hb hd hi hl hn h kk) k
theorem xw_astore {i : Nat} {x : Nat} {L2 : List (Nat × Value)} (hd : decode q.2.1 pc = .ok (.astore i, 2)) (hn : i < q.2.2.1) (h : st1 L i (.ref x) = L2) (k : XW G d lo q As M0 P M (pc + 2) L2 st) : XW G d lo q As M0 P M pc L (.ref x :: st) := xw_s (fun p e R s m below meth c Q k n H locs ls hx hb hl kk => lv_astore hx hb hd hl hn h kk) k
theorem xw_astore_nN {k : Fin 4} {i : Nat} {L2 : List (Nat × Value)} (hd : decode q.2.1 pc = .ok (.astore_n k, 1)) (hi : (k : Nat) = i) (hn : i < q.2.2.1) (h : st1 L i .null = L2) (k : XW G d lo q As M0 P M (pc + 1) L2 st) : XW G d lo q As M0 P M pc L (.null :: st) := xw_s (fun p e R s m below meth c Q k n H locs ls hx hb hl kk => lv_astore_nN hx hb hd hi hl hn h kk) k
theorem xw_astoreN {i : Nat} {L2 : List (Nat × Value)} (hd : decode q.2.1 pc = .ok (.astore i, 2)) (hn : i < q.2.2.1) (h : st1 L i .null = L2) (k : XW G d lo q As M0 P M (pc + 2) L2 st) : XW G d lo q As M0 P M pc L (.null :: st) := xw_s (fun p e R s m below meth c Q k n H locs ls hx hb hl kk => lv_astoreN hx hb hd hl hn h kk) k
theorem xw_lstore_n {k : Fin 4} {i : Nat} {x : Int64} {L2 : List (Nat × Value)} (hd : decode q.2.1 pc = .ok (.lstore_n k, 1)) (hi : (k : Nat) = i) (hn : i + 1 < q.2.2.1) (h : st2l L i (.long x) = L2) (k : XW G d lo q As M0 P M (pc + 1) L2 st) : XW G d lo q As M0 P M pc L (.long x :: st) := xw_s (fun p e R s m below meth c Q k n H locs ls hx hb hl kk => lv_lstore_n hx hb hd hi hl hn h kk) k
theorem xw_lstore {i : Nat} {x : Int64} {L2 : List (Nat × Value)} (hd : decode q.2.1 pc = .ok (.lstore i, 2)) (hn : i + 1 < q.2.2.1) (h : st2l L i (.long x) = L2) (k : XW G d lo q As M0 P M (pc + 2) L2 st) : XW G d lo q As M0 P M pc L (.long x :: st) := xw_s (fun p e R s m below meth c Q k n H locs ls hx hb hl kk => lv_lstore hx hb hd hl hn h kk) k
theorem xw_iinc {i : Nat} {n : Int} {x v : Int32} {L2 : List (Nat × Value)} (hd : decode q.2.1 pc = .ok (.iinc i n, 3)) (hx0 : lk L i = some (.int x)) (hv : x + Int32.ofInt n = v) (hn : i < q.2.2.1) (h : st1 L i (.int v) = L2) (k : XW G d lo q As M0 P M (pc + 3) L2 st) : XW G d lo q As M0 P M pc L st := by
  obtain ⟨j, hj⟩ := List.getElem?_of_mem (lk_in hx0)
  exact xw_s (fun p e R s m below meth c Q k n H locs ls hx hb hl kk => lv_iinc hx hb hd hl hj hv hn h kk) k
theorem xw_if_eq {x : Int32} {off : Int} {tgt : Nat} (hd : decode q.2.1 pc = .ok (.ifCond .eq off, 3)) (ht : (pc : Int) + off = (tgt : Int)) (kt : x = 0 → XW G d lo q As M0 P M tgt L st) (kf : ¬ x = 0 → XW G d lo q As M0 P M (pc + 3) L st) : XW G d lo q As M0 P M pc L (.int x :: st) := by
  by_cases hc : x = 0
  · exact xw_s (fun p e R s m below meth c Q k n H locs ls hx hb hl kk => lv_if_eq hx hb hd ht (fun _ => kk ls hl) (fun z => absurd hc z)) (kt hc)
  · exact xw_s (fun p e R s m below meth c Q k n H locs ls hx hb hl kk => lv_if_eq hx hb hd ht (fun z => absurd z hc) (fun _ => kk ls hl)) (kf hc)
theorem xw_icmp_eq {x y : Int32} {off : Int} {tgt : Nat} (hd : decode q.2.1 pc = .ok (.if_icmp .eq off, 3)) (ht : (pc : Int) + off = (tgt : Int)) (kt : x = y → XW G d lo q As M0 P M tgt L st) (kf : ¬ x = y → XW G d lo q As M0 P M (pc + 3) L st) : XW G d lo q As M0 P M pc L (.int y :: .int x :: st) := by
  by_cases hc : x = y
  · exact xw_s (fun p e R s m below meth c Q k n H locs ls hx hb hl kk => lv_icmp_eq hx hb hd ht (fun _ => kk ls hl) (fun z => absurd hc z)) (kt hc)
  · exact xw_s (fun p e R s m below meth c Q k n H locs ls hx hb hl kk => lv_icmp_eq hx hb hd ht (fun z => absurd z hc) (fun _ => kk ls hl)) (kf hc)
theorem xw_if_ne {x : Int32} {off : Int} {tgt : Nat} (hd : decode q.2.1 pc = .ok (.ifCond .ne off, 3)) (ht : (pc : Int) + off = (tgt : Int)) (kt : ¬ x = 0 → XW G d lo q As M0 P M tgt L st) (kf : x = 0 → XW G d lo q As M0 P M (pc + 3) L st) : XW G d lo q As M0 P M pc L (.int x :: st) := by
  by_cases hc : x = 0
  · exact xw_s (fun p e R s m below meth c Q k n H locs ls hx hb hl kk => lv_if_ne hx hb hd ht (fun z => absurd hc z) (fun _ => kk ls hl)) (kf hc)
  · exact xw_s (fun p e R s m below meth c Q k n H locs ls hx hb hl kk => lv_if_ne hx hb hd ht (fun _ => kk ls hl) (fun z => absurd z hc)) (kt hc)
theorem xw_icmp_ne {x y : Int32} {off : Int} {tgt : Nat} (hd : decode q.2.1 pc = .ok (.if_icmp .ne off, 3)) (ht : (pc : Int) + off = (tgt : Int)) (kt : ¬ x = y → XW G d lo q As M0 P M tgt L st) (kf : x = y → XW G d lo q As M0 P M (pc + 3) L st) : XW G d lo q As M0 P M pc L (.int y :: .int x :: st) := by
  by_cases hc : x = y
  · exact xw_s (fun p e R s m below meth c Q k n H locs ls hx hb hl kk => lv_icmp_ne hx hb hd ht (fun z => absurd hc z) (fun _ => kk ls hl)) (kf hc)
  · exact xw_s (fun p e R s m below meth c Q k n H locs ls hx hb hl kk => lv_icmp_ne hx hb hd ht (fun _ => kk ls hl) (fun z => absurd z hc)) (kt hc)
theorem xw_if_lt {x : Int32} {off : Int} {tgt : Nat} (hd : decode q.2.1 pc = .ok (.ifCond .lt off, 3)) (ht : (pc : Int) + off = (tgt : Int)) (kt : x < 0 → XW G d lo q As M0 P M tgt L st) (kf : ¬ x < 0 → XW G d lo q As M0 P M (pc + 3) L st) : XW G d lo q As M0 P M pc L (.int x :: st) := by
  by_cases hc : x < 0
  · exact xw_s (fun p e R s m below meth c Q k n H locs ls hx hb hl kk => lv_if_lt hx hb hd ht (fun _ => kk ls hl) (fun z => absurd hc z)) (kt hc)
  · exact xw_s (fun p e R s m below meth c Q k n H locs ls hx hb hl kk => lv_if_lt hx hb hd ht (fun z => absurd z hc) (fun _ => kk ls hl)) (kf hc)
theorem xw_icmp_lt {x y : Int32} {off : Int} {tgt : Nat} (hd : decode q.2.1 pc = .ok (.if_icmp .lt off, 3)) (ht : (pc : Int) + off = (tgt : Int)) (kt : x < y → XW G d lo q As M0 P M tgt L st) (kf : ¬ x < y → XW G d lo q As M0 P M (pc + 3) L st) : XW G d lo q As M0 P M pc L (.int y :: .int x :: st) := by
  by_cases hc : x < y
  · exact xw_s (fun p e R s m below meth c Q k n H locs ls hx hb hl kk => lv_icmp_lt hx hb hd ht (fun _ => kk ls hl) (fun z => absurd hc z)) (kt hc)
  · exact xw_s (fun p e R s m below meth c Q k n H locs ls hx hb hl kk => lv_icmp_lt hx hb hd ht (fun z => absurd z hc) (fun _ => kk ls hl)) (kf hc)
theorem xw_if_ge {x : Int32} {off : Int} {tgt : Nat} (hd : decode q.2.1 pc = .ok (.ifCond .ge off, 3)) (ht : (pc : Int) + off = (tgt : Int)) (kt : 0 ≤ x → XW G d lo q As M0 P M tgt L st) (kf : ¬ 0 ≤ x → XW G d lo q As M0 P M (pc + 3) L st) : XW G d lo q As M0 P M pc L (.int x :: st) := by
  by_cases hc : 0 ≤ x
  · exact xw_s (fun p e R s m below meth c Q k n H locs ls hx hb hl kk => lv_if_ge hx hb hd ht (fun _ => kk ls hl) (fun z => absurd hc z)) (kt hc)
  · exact xw_s (fun p e R s m below meth c Q k n H locs ls hx hb hl kk => lv_if_ge hx hb hd ht (fun z => absurd z hc) (fun _ => kk ls hl)) (kf hc)
theorem xw_icmp_ge {x y : Int32} {off : Int} {tgt : Nat} (hd : decode q.2.1 pc = .ok (.if_icmp .ge off, 3)) (ht : (pc : Int) + off = (tgt : Int)) (kt : y ≤ x → XW G d lo q As M0 P M tgt L st) (kf : ¬ y ≤ x → XW G d lo q As M0 P M (pc + 3) L st) : XW G d lo q As M0 P M pc L (.int y :: .int x :: st) := by
  by_cases hc : y ≤ x
  · exact xw_s (fun p e R s m below meth c Q k n H locs ls hx hb hl kk => lv_icmp_ge hx hb hd ht (fun _ => kk ls hl) (fun z => absurd hc z)) (kt hc)
  · exact xw_s (fun p e R s m below meth c Q k n H locs ls hx hb hl kk => lv_icmp_ge hx hb hd ht (fun z => absurd z hc) (fun _ => kk ls hl)) (kf hc)
theorem xw_if_gt {x : Int32} {off : Int} {tgt : Nat} (hd : decode q.2.1 pc = .ok (.ifCond .gt off, 3)) (ht : (pc : Int) + off = (tgt : Int)) (kt : 0 < x → XW G d lo q As M0 P M tgt L st) (kf : ¬ 0 < x → XW G d lo q As M0 P M (pc + 3) L st) : XW G d lo q As M0 P M pc L (.int x :: st) := by
  by_cases hc : 0 < x
  · exact xw_s (fun p e R s m below meth c Q k n H locs ls hx hb hl kk => lv_if_gt hx hb hd ht (fun _ => kk ls hl) (fun z => absurd hc z)) (kt hc)
  · exact xw_s (fun p e R s m below meth c Q k n H locs ls hx hb hl kk => lv_if_gt hx hb hd ht (fun z => absurd z hc) (fun _ => kk ls hl)) (kf hc)
theorem xw_icmp_gt {x y : Int32} {off : Int} {tgt : Nat} (hd : decode q.2.1 pc = .ok (.if_icmp .gt off, 3)) (ht : (pc : Int) + off = (tgt : Int)) (kt : y < x → XW G d lo q As M0 P M tgt L st) (kf : ¬ y < x → XW G d lo q As M0 P M (pc + 3) L st) : XW G d lo q As M0 P M pc L (.int y :: .int x :: st) := by
  by_cases hc : y < x
  · exact xw_s (fun p e R s m below meth c Q k n H locs ls hx hb hl kk => lv_icmp_gt hx hb hd ht (fun _ => kk ls hl) (fun z => absurd hc z)) (kt hc)
  · exact xw_s (fun p e R s m below meth c Q k n H locs ls hx hb hl kk => lv_icmp_gt hx hb hd ht (fun z => absurd z hc) (fun _ => kk ls hl)) (kf hc)
theorem xw_if_le {x : Int32} {off : Int} {tgt : Nat} (hd : decode q.2.1 pc = .ok (.ifCond .le off, 3)) (ht : (pc : Int) + off = (tgt : Int)) (kt : x ≤ 0 → XW G d lo q As M0 P M tgt L st) (kf : ¬ x ≤ 0 → XW G d lo q As M0 P M (pc + 3) L st) : XW G d lo q As M0 P M pc L (.int x :: st) := by
  by_cases hc : x ≤ 0
  · exact xw_s (fun p e R s m below meth c Q k n H locs ls hx hb hl kk => lv_if_le hx hb hd ht (fun _ => kk ls hl) (fun z => absurd hc z)) (kt hc)
  · exact xw_s (fun p e R s m below meth c Q k n H locs ls hx hb hl kk => lv_if_le hx hb hd ht (fun z => absurd z hc) (fun _ => kk ls hl)) (kf hc)
theorem xw_icmp_le {x y : Int32} {off : Int} {tgt : Nat} (hd : decode q.2.1 pc = .ok (.if_icmp .le off, 3)) (ht : (pc : Int) + off = (tgt : Int)) (kt : x ≤ y → XW G d lo q As M0 P M tgt L st) (kf : ¬ x ≤ y → XW G d lo q As M0 P M (pc + 3) L st) : XW G d lo q As M0 P M pc L (.int y :: .int x :: st) := by
  by_cases hc : x ≤ y
  · exact xw_s (fun p e R s m below meth c Q k n H locs ls hx hb hl kk => lv_icmp_le hx hb hd ht (fun _ => kk ls hl) (fun z => absurd hc z)) (kt hc)
  · exact xw_s (fun p e R s m below meth c Q k n H locs ls hx hb hl kk => lv_icmp_le hx hb hd ht (fun z => absurd z hc) (fun _ => kk ls hl)) (kf hc)
theorem xw_goto {off : Int} {tgt : Nat} (hd : decode q.2.1 pc = .ok (.goto off, 3)) (ht : (pc : Int) + off = (tgt : Int)) (k : XW G d lo q As M0 P M tgt L st) : XW G d lo q As M0 P M pc L st := xw_s (fun p e R s m below meth c Q k n H locs ls hx hb hl kk => lv_goto hx hb hd ht (kk ls hl)) k
theorem xw_ifnull {x : Nat} {off : Int} (hd : decode q.2.1 pc = .ok (.ifnull off, 3)) (k : XW G d lo q As M0 P M (pc + 3) L st) : XW G d lo q As M0 P M pc L (.ref x :: st) := xw_s (fun p e R s m below meth c Q k n H locs ls hx hb hl kk => lv_ifnull hx hb hd (kk ls hl)) k
theorem xw_ifnonnull {x : Nat} {off : Int} {tgt : Nat} (hd : decode q.2.1 pc = .ok (.ifnonnull off, 3)) (ht : (pc : Int) + off = (tgt : Int)) (k : XW G d lo q As M0 P M tgt L st) : XW G d lo q As M0 P M pc L (.ref x :: st) := xw_s (fun p e R s m below meth c Q k n H locs ls hx hb hl kk => lv_ifnonnull hx hb hd ht (kk ls hl)) k
theorem xw_ifnullN {off : Int} {tgt : Nat} (hd : decode q.2.1 pc = .ok (.ifnull off, 3)) (ht : (pc : Int) + off = (tgt : Int)) (k : XW G d lo q As M0 P M tgt L st) : XW G d lo q As M0 P M pc L (.null :: st) := xw_s (fun p e R s m below meth c Q k n H locs ls hx hb hl kk => lv_ifnullN hx hb hd ht (kk ls hl)) k
theorem xw_ifnonnullN {off : Int} (hd : decode q.2.1 pc = .ok (.ifnonnull off, 3)) (k : XW G d lo q As M0 P M (pc + 3) L st) : XW G d lo q As M0 P M pc L (.null :: st) := xw_s (fun p e R s m below meth c Q k n H locs ls hx hb hl kk => lv_ifnonnullN hx hb hd (kk ls hl)) k
theorem xw_acmp_eq {rx ry : Option Nat} {off : Int} {tgt : Nat} (hd : decode q.2.1 pc = .ok (.if_acmp .eq off, 3)) (ht : (pc : Int) + off = (tgt : Int)) (kt : rx = ry → XW G d lo q As M0 P M tgt L st) (kf : ¬ rx = ry → XW G d lo q As M0 P M (pc + 3) L st) : XW G d lo q As M0 P M pc L (va_rf ry :: va_rf rx :: st) := by
  by_cases hc : rx = ry
  · exact xw_s (fun p e R s m below meth c Q k n H locs ls hx hb hl kk => lv_acmp_eq hx hb hd ht (fun _ => kk ls hl) (fun z => absurd hc z)) (kt hc)
  · exact xw_s (fun p e R s m below meth c Q k n H locs ls hx hb hl kk => lv_acmp_eq hx hb hd ht (fun z => absurd z hc) (fun _ => kk ls hl)) (kf hc)
theorem xw_acmp_ne {rx ry : Option Nat} {off : Int} {tgt : Nat} (hd : decode q.2.1 pc = .ok (.if_acmp .ne off, 3)) (ht : (pc : Int) + off = (tgt : Int)) (kt : ¬ rx = ry → XW G d lo q As M0 P M tgt L st) (kf : rx = ry → XW G d lo q As M0 P M (pc + 3) L st) : XW G d lo q As M0 P M pc L (va_rf ry :: va_rf rx :: st) := by
  by_cases hc : rx = ry
  · exact xw_s (fun p e R s m below meth c Q k n H locs ls hx hb hl kk => lv_acmp_ne hx hb hd ht (fun z => absurd hc z) (fun _ => kk ls hl)) (kf hc)
  · exact xw_s (fun p e R s m below meth c Q k n H locs ls hx hb hl kk => lv_acmp_ne hx hb hd ht (fun _ => kk ls hl) (fun z => absurd z hc)) (kt hc)
theorem xw_lookup {dflt : Int} {ps : Array (Int × Int)} {len : Nat} {x : Int32} {off : Int} {tgt : Nat} (hd : decode q.2.1 pc = .ok (.lookupswitch dflt ps, len)) (hp : (ps.toList.zip (ps.toList.drop 1)).all (fun (a, next) => a.1 < next.1) = true) (ho : Op.lookupswitch.offset ps.toList dflt x.toInt = off) (ht : (pc : Int) + off = (tgt : Int)) (k : XW G d lo q As M0 P M tgt L st) : XW G d lo q As M0 P M pc L (.int x :: st) := xw_s (fun p e R s m below meth c Q k n H locs ls hx hb hl kk => lv_lookup hx hb hd hp ho ht (kk ls hl)) k
theorem xw_tableOut {dflt l0 h0 : Int} {offs : Array Int} {len : Nat} {x : Int32} {tgt : Nat} (hd : decode q.2.1 pc = .ok (.tableswitch dflt l0 h0 offs, len)) (h : x.toInt < l0 ∨ h0 < x.toInt) (ht : (pc : Int) + dflt = (tgt : Int)) (k : XW G d lo q As M0 P M tgt L st) : XW G d lo q As M0 P M pc L (.int x :: st) := xw_s (fun p e R s m below meth c Q k n H locs ls hx hb hl kk => lv_tableOut hx hb hd h ht (kk ls hl)) k
theorem xw_tableIn {dflt l0 h0 : Int} {offs : Array Int} {len : Nat} {x : Int32} {off : Int} {tgt : Nat} (hd : decode q.2.1 pc = .ok (.tableswitch dflt l0 h0 offs, len)) (h1 : ¬ x.toInt < l0) (h2 : ¬ h0 < x.toInt) (ho : offs[(x.toInt - l0).toNat]? = some off) (ht : (pc : Int) + off = (tgt : Int)) (k : XW G d lo q As M0 P M tgt L st) : XW G d lo q As M0 P M pc L (.int x :: st) := xw_s (fun p e R s m below meth c Q k n H locs ls hx hb hl kk => lv_tableIn hx hb hd h1 h2 ho ht (kk ls hl)) k
theorem xw_ldc {index : Nat} {v : Int32} (hw : Cond.constant q.1.cls index v ∈ TW) (hd : decode q.2.1 pc = .ok (.ldc index, 2)) (k : XW G d lo q As M0 P M (pc + 2) L (.int v :: st)) : XW G d lo q As M0 P M pc L st := xw_g (fun p e R s m below meth c Q k n C hR1 hR2 H locs ls hS hV hl kk => lv_ldc C.1 C.2.1 C.2.2.2.2.2.1 (C.2.2.2.2.1 _ (List.mem_cons_of_mem _ hw)) hd (kk ls hl)) k
theorem xw_ldc2 {index : Nat} {v : Int64} (hw : Cond.constantLong q.1.cls index v ∈ TW) (hd : decode q.2.1 pc = .ok (.ldc2_w index, 3)) (k : XW G d lo q As M0 P M (pc + 3) L (.long v :: st)) : XW G d lo q As M0 P M pc L st := xw_g (fun p e R s m below meth c Q k n C hR1 hR2 H locs ls hS hV hl kk => lv_ldc2 C.1 C.2.1 C.2.2.2.2.2.1 (C.2.2.2.2.1 _ (List.mem_cons_of_mem _ hw)) hd (kk ls hl)) k
theorem xw_view {M2 : hx_S} (hw : Wf M → Wf M2) (hz : Sz M2 = Sz M) (hs : Sl M2 = Sl M) (hv : ∀ H, Sh G M H → Sh G M2 H) (k : XW G d lo q As M0 P M2 pc L st) : XW G d lo q As M0 P M pc L st := by
  intro h0 hwf
  obtain ⟨r, M1, hP, hl1, hwf1, k⟩ := k ⟨by rw [hz]; exact h0.1, by rw [hs]; exact h0.2⟩ (hw hwf)
  refine ⟨r, M1, hP, ⟨by rw [← hz]; exact hl1.1, by rw [← hs]; exact hl1.2⟩, hwf1, fun p e s m below meth c C H locs ls hS hV hl => ?_⟩
  have k2 := k p e s m below meth c C H locs ls (hv H hS) hV hl
  rw [hz, hs] at k2
  exact k2
theorem xw_iret {x : Int32} (hr : q.2.2.2 = some .int) (hd : decode q.2.1 pc = .ok (.ireturn, 1)) (hP : P (some (.int x)) M) : XW G d lo q As M0 P M pc L [.int x] := by
  intro h0 hwf
  refine ⟨_, M, hP, hle.rf M, hwf, fun p e s m below meth c C H locs ls hS hV hl => ?_⟩
  have hlocks : meth.locks = false := C.2.2.2.2.2.2.1
  exact W.iret C.1 C.2.1 (C.2.2.2.1.trans hr) (fun t ht hW => ⟨rfl, ⟨by rw [ht]; exact hS, C.2.2.2.2.2.2.2.2.1.go hW (by rw [ht]; exact hV.1) (fun a ha hn => by rw [ht]; exact hV.2.1 a ha hn)⟩, hV.F ht⟩) hV.2.2 hd
theorem xw_zret {x : Int32} (hr : q.2.2.2 = some .boolean) (hn : narrow .boolean (.int x) = .int x) (hd : decode q.2.1 pc = .ok (.ireturn, 1)) (hP : P (some (.int x)) M) : XW G d lo q As M0 P M pc L [.int x] := by
  intro h0 hwf
  refine ⟨_, M, hP, hle.rf M, hwf, fun p e s m below meth c C H locs ls hS hV hl => ?_⟩
  have hlocks : meth.locks = false := C.2.2.2.2.2.2.1
  exact W.zret C.1 C.2.1 (C.2.2.2.1.trans hr) hn (fun t ht hW => ⟨rfl, ⟨by rw [ht]; exact hS, C.2.2.2.2.2.2.2.2.1.go hW (by rw [ht]; exact hV.1) (fun a ha hn => by rw [ht]; exact hV.2.1 a ha hn)⟩, hV.F ht⟩) hV.2.2 hd
theorem xw_lret {x : Int64} (hr : q.2.2.2 = some .long) (hd : decode q.2.1 pc = .ok (.lreturn, 1)) (hP : P (some (.long x)) M) : XW G d lo q As M0 P M pc L [.long x] := by
  intro h0 hwf
  refine ⟨_, M, hP, hle.rf M, hwf, fun p e s m below meth c C H locs ls hS hV hl => ?_⟩
  have hlocks : meth.locks = false := C.2.2.2.2.2.2.1
  exact W.lret C.1 C.2.1 (C.2.2.2.1.trans hr) (fun t ht hW => ⟨rfl, ⟨by rw [ht]; exact hS, C.2.2.2.2.2.2.2.2.1.go hW (by rw [ht]; exact hV.1) (fun a ha hn => by rw [ht]; exact hV.2.1 a ha hn)⟩, hV.F ht⟩) hV.2.2 hd
theorem xw_vret (hr : q.2.2.2 = none) (hd : decode q.2.1 pc = .ok (.return_, 1)) (hP : P (none) M) : XW G d lo q As M0 P M pc L [] := by
  intro h0 hwf
  refine ⟨_, M, hP, hle.rf M, hwf, fun p e s m below meth c C H locs ls hS hV hl => ?_⟩
  have hlocks : meth.locks = false := C.2.2.2.2.2.2.1
  exact W.vret C.1 C.2.1 (C.2.2.2.1.trans hr) (fun t ht hW => ⟨rfl, ⟨by rw [ht]; exact hS, C.2.2.2.2.2.2.2.2.1.go hW (by rw [ht]; exact hV.1) (fun a ha hn => by rw [ht]; exact hV.2.1 a ha hn)⟩, hV.F ht⟩) hV.2.2 hd
theorem xw_aret {rt : FieldType} {v : Value} (hr : q.2.2.2 = some rt) (hrt : (∃ n, rt = .object n) ∨ ∃ t, rt = .array t) (hv : v = .null ∨ ∃ a, v = .ref a) (hd : decode q.2.1 pc = .ok (.areturn, 1)) (hP : P (some v) M) : XW G d lo q As M0 P M pc L [v] := by
  intro h0 hwf
  refine ⟨_, M, hP, hle.rf M, hwf, fun p e s m below meth c C H locs ls hS hV hl => ?_⟩
  have hlocks : meth.locks = false := C.2.2.2.2.2.2.1
  exact W.aret C.1 C.2.1 (C.2.2.2.1.trans hr) hrt hv (fun t ht hW => ⟨rfl, ⟨by rw [ht]; exact hS, C.2.2.2.2.2.2.2.2.1.go hW (by rw [ht]; exact hV.1) (fun a ha hn => by rw [ht]; exact hV.2.1 a ha hn)⟩, hV.F ht⟩) hV.2.2 hd
end XR1
end
section
/-! A ROW AN INSTRUCTION, OVER THE PURE HEAP: what reads, changes or makes cells -/
section XR2
variable {G : hx_G} {d lo : Nat} {q : hx_M} {As : List Value} {M0 M M2 : hx_S} {P : Option Value → hx_S → Prop} {pc pc2 : Nat} {L L2 : List (Nat × Value)} {st st2 : List Value}
theorem hx_C.hx {p : Program} {s : State} {m : MethodId} {args : Array Value} {meth : Method} {c : Code} (C : hx_C G q M0 p s m args meth c) : p.tables.exec = Jvm.exec := C.1
theorem hx_C.hb {p : Program} {s : State} {m : MethodId} {args : Array Value} {meth : Method} {c : Code} (C : hx_C G q M0 p s m args meth c) : c.code = q.2.1 := C.2.1
theorem hx_C.hml {p : Program} {s : State} {m : MethodId} {args : Array Value} {meth : Method} {c : Code} (C : hx_C G q M0 p s m args meth c) : c.maxLocals = q.2.2.1 := C.2.2.1
theorem hx_C.hts {p : Program} {s : State} {m : MethodId} {args : Array Value} {meth : Method} {c : Code} (C : hx_C G q M0 p s m args meth c) : ∀ w ∈ TW, w.before args s = true := fun w h => C.2.2.2.2.1 w (List.mem_cons_of_mem _ h)
theorem hx_C.hts0 {p : Program} {s : State} {m : MethodId} {args : Array Value} {meth : Method} {c : Code} (C : hx_C G q M0 p s m args meth c) : ∀ w ∈ hx_w q, w.before args s = true := C.2.2.2.2.1
theorem hx_C.hown {p : Program} {s : State} {m : MethodId} {args : Array Value} {meth : Method} {c : Code} (C : hx_C G q M0 p s m args meth c) : s.vm.findClass q.1.cls = some m.cls := C.2.2.2.2.2.1
theorem hx_C.hnm {p : Program} {s : State} {m : MethodId} {args : Array Value} {meth : Method} {c : Code} (C : hx_C G q M0 p s m args meth c) : meth.name = q.1.name := C.2.2.2.2.2.2.2.1
theorem hx_C.hks {p : Program} {s : State} {m : MethodId} {args : Array Value} {meth : Method} {c : Code} (C : hx_C G q M0 p s m args meth c) : KS G s := C.2.2.2.2.2.2.2.2.1
theorem hx_C.hK {p : Program} {s : State} {m : MethodId} {args : Array Value} {meth : Method} {c : Code} (C : hx_C G q M0 p s m args meth c) : va_K (gD G) vwCl (gT G) s := C.hks.1
theorem KS.fresh {s : State} (h : KS G s) : ∀ q, s.heap.size ≤ q → gA G q := h.2.1
/-- an instruction that changes the heap, or makes dz cells of ds slots -/
theorem xw_h (hw : Wf M → Wf M2) (dz ds : Nat) (hz : Sz M2 = Sz M + dz) (hs : Sl M2 = Sl M + ds) (h : ∀ (p : Program) (e : Env) (R : Room) (s : State) (m : MethodId) (below : List Frame) (meth : Method) (c : Code) (Q : State → Prop) (k n : Nat), hx_C G q M0 p s m As.toArray meth c → d = R.frames → lo = R.locals → k + dz ≤ R.cells → n + ds ≤ R.slots →
      ∀ (H : Heap) (locs : List Loc) (ls : Array Slot), Sh G M H → va_S (gA G) s.heap H locs → lv_has ls q.2.2.1 L →
        (∀ (H2 : Heap) (locs2 : List Loc) (ls2 : Array Slot), Sh G M2 H2 → va_S (gA G) s.heap H2 locs2 → lv_has ls2 q.2.2.1 L2 → W p (gL G) e R s m As.toArray below meth c H2 locs2 (k + dz) (n + ds) Q (F0 m pc2 ls2 st2)) → W p (gL G) e R s m As.toArray below meth c H locs k n Q (F0 m pc ls st))
    (k : XW G d lo q As M0 P M2 pc2 L2 st2) : XW G d lo q As M0 P M pc L st := by
  intro h0 hwf
  have h02 : hle M0 M2 := ⟨by have := h0.1; omega, by have := h0.2; omega⟩
  obtain ⟨r, M1, hP, hl1, hwf1, k⟩ := k h02 (hw hwf)
  refine ⟨r, M1, hP, ⟨by have := hl1.1; omega, by have := hl1.2; omega⟩, hwf1, fun p e s m below meth c C H locs ls hS hV hl => ?_⟩
  have e1 : Sz M2 - Sz M0 = Sz M - Sz M0 + dz := by have := h0.1; omega
  have e2 : Sl M2 - Sl M0 = Sl M - Sl M0 + ds := by have := h0.2; omega
  refine h p e _ s m below meth c _ _ _ C rfl rfl ?_ ?_ H locs ls hS hV hl (fun H2 locs2 ls2 hS2 hV2 hl2 => ?_)
  · show Sz M - Sz M0 + dz ≤ Sz M1 - Sz M0
    have := hl1.1
    omega
  · show Sl M - Sl M0 + ds ≤ Sl M1 - Sl M0
    have := hl1.2
    omega
  · rw [← e1, ← e2]
    exact k p e s m below meth c C H2 locs2 ls2 hS2 hV2 hl2
theorem va_P1 {D : va_G} {cl : List vw_C} {x : Nat × va_E} {H : Heap} (h : va_at D cl x H) : va_P D cl [x] H := by
  intro k y hy
  cases k with
  | zero => cases hy; exact h
  | succ k => simp at hy
/-- the field that a link names -/
def hx_same (ref : String) (t : String × String × String × Bool) : Prop := t.1 = ref ∨ Cond.sameField ref t.1 t.2.1 t.2.2.1 ∈ TW
theorem hx_same.use {ref : String} {t : String × String × String × Bool} {args : Array Value} {s : State} (h : hx_same ref t) (hts : ∀ w ∈ TW, w.before args s = true) : ∀ x, s.fieldFound? t.1 t.2.1 t.2.2.1 = some x → s.fieldFound? ref t.2.1 t.2.2.1 = some x := by
  rcases h with h | h
  · intro x hx
    rw [← h]
    exact hx
  · exact fun x hx => u_same (hts _ h) x hx
theorem xw_get {ci a k index N : Nat} {fs : List Value} {v : Value} {C ref : String} {T : u_T} (hd : decode q.2.1 pc = .ok (.getfield index, 3)) (h : So M ci a = some fs) (hc : vwCl[ci]? = some (C, T, N)) (hin : ∀ w ∈ u_ws C T N, w ∈ TW) (hk : k < N) (hw : Cond.fieldLink q.1.cls index ref (T k).2.1 (T k).2.2.1 ∈ TW) (hsm : hx_same ref (T k)) (hv : fs[k]? = some v)
    (kk : XW G d lo q As M0 P M (pc + 3) L (v :: st)) : XW G d lo q As M0 P M pc L (.ref a :: st) :=
  xw_g (fun p e R s m below meth c Q k' n C hR1 hR2 H locs ls hS hV hl kk => va_get (ws := [(a, .inr (ci, fs))]) C.hx C.hb C.hts hin C.hown C.hK (va_P1 (hS.2.1 ci a fs h).2.2.2) 0 rfl hc k hk (C.hts _ hw) (hsm.use C.hts) hv hd (kk ls hl)) kk
theorem xw_put {ci a k index N : Nat} {fs : List Value} {v : Value} {C ref : String} {T : u_T} {ty : FieldType} (ty0 : Nat → FieldType) (hd : decode q.2.1 pc = .ok (.putfield index, 3)) (h : So M ci a = some fs) (hc : vwCl[ci]? = some (C, T, N)) (hin : ∀ w ∈ u_ws C T N, w ∈ TW) (hty : ∀ k, k < N → parseFieldDescriptor (T k).2.2.1 = some (ty0 k)) (hnm : ∀ a, a < N → ∀ b, b < N → a ≠ b → (T a).2.1 ≠ (T b).2.1) (hk : k < N)
    (hw : Cond.fieldLink q.1.cls index ref (T k).2.1 (T k).2.2.1 ∈ TW) (hsm : hx_same ref (T k)) (hfin : (T k).2.2.2 = false) (ht : ty0 k = ty) (hn : narrow ty v = v) (hfit : fits ty v = true) (hlen : k < fs.length)
    (kk : XW G d lo q As M0 P (oput M ci a (some (fs.set k v))) (pc + 3) L st) : XW G d lo q As M0 P M pc L (v :: .ref a :: st) := by
  refine xw_h (M2 := oput M ci a (some (fs.set k v))) (fun hwf => Wf.oset hwf h) 0 0 rfl rfl (fun p e R s m below meth c Q k' n C0 hR1 hR2 hz hs H locs ls hS hV hl kk => ?_) kk
  have hK := C0.hK
  have hts := C0.hts
  have hd1 : parseFieldDescriptor (T k).2.2.1 = some ty := by rw [← ht]; exact hty k hk
  have hap := va_apart (own := q.1.cls) hts hin ty0 hty hnm hK hc
  obtain ⟨g1, g2, g3, r, h1, cell, q1, q2, q3, q4⟩ := hS.2.1 ci a fs h
  have hr : r = (C, T, N) := Option.some.inj (h1.symm.trans hc)
  subst hr
  obtain ⟨hSl, hfc, kC, hkC, hkind⟩ := hK.1 ci _ hc
  obtain ⟨cf, kf, fi, f, hi, hsl⟩ := hSl k hk
  have hlay := hts _ (hin _ (u_in_lay hk))
  unfold u_lay at hlay
  rw [if_neg (by rw [hfin]; decide)] at hlay
  have hst := (u_facts hfc hkC (u_lays hts hin hk) hi).1
  have h6 := u_store hfc hkC hkind hlay hi hd1 hn hfit
  refine W.putK C0.hx C0.hb (f := f) ⟨C0.hown, hts _ hw, ⟨_, _, _, hsm.use hts _ hi⟩, hst⟩ (by rw [q2]; exact h6) q1 q3 (by rw [hsl]; exact k2_hasslot (q4 k hk)) rfl rfl hd fun H' e1 e2 e3 => ?_
  rw [hsl] at e1 ⊢
  exact kk H' _ ls (Sh.oset hS h e2 e3 ⟨_, hc, t_OB.to (V := updV (vp_V fs) k v) ⟨_, e1, q2, q3, t_set q4 hap hk v⟩ (fun j _ => vp_updV_set hlen v j)⟩) (hV.put e2 e3 g3) hl
theorem xw_putF {ci a k index N : Nat} {fs : List Value} {v : Value} {C ref : String} {T : u_T} {ty : FieldType} (ty0 : Nat → FieldType) (hd : decode q.2.1 pc = .ok (.putfield index, 3)) (h : So M ci a = some fs) (hc : vwCl[ci]? = some (C, T, N)) (hin : ∀ w ∈ u_ws C T N, w ∈ TW) (hty : ∀ k, k < N → parseFieldDescriptor (T k).2.2.1 = some (ty0 k)) (hnm : ∀ a, a < N → ∀ b, b < N → a ≠ b → (T a).2.1 ≠ (T b).2.1) (hk : k < N)
    (hw : Cond.fieldLink q.1.cls index ref (T k).2.1 (T k).2.2.1 ∈ TW) (hsm : hx_same ref (T k)) (hfin : (T k).2.2.2 = true) (hin2 : q.1.name = "<init>") (hdecl : (T k).1 = q.1.cls) (ht : ty0 k = ty) (hn : narrow ty v = v) (hfit : fits ty v = true) (hlen : k < fs.length)
    (kk : XW G d lo q As M0 P (oput M ci a (some (fs.set k v))) (pc + 3) L st) : XW G d lo q As M0 P M pc L (v :: .ref a :: st) := by
  refine xw_h (M2 := oput M ci a (some (fs.set k v))) (fun hwf => Wf.oset hwf h) 0 0 rfl rfl (fun p e R s m below meth c Q k' n C0 hR1 hR2 hz hs H locs ls hS hV hl kk => ?_) kk
  have hK := C0.hK
  have hts := C0.hts
  have hown := C0.hown
  have hd1 : parseFieldDescriptor (T k).2.2.1 = some ty := by rw [← ht]; exact hty k hk
  have hap := va_apart (own := q.1.cls) hts hin ty0 hty hnm hK hc
  obtain ⟨g1, g2, g3, r, h1, cell, q1, q2, q3, q4⟩ := hS.2.1 ci a fs h
  have hr : r = (C, T, N) := Option.some.inj (h1.symm.trans hc)
  subst hr
  obtain ⟨hSl, hfc, kC, hkC, hkind⟩ := hK.1 ci _ hc
  obtain ⟨cf, kf, fi, f, hi, hsl⟩ := hSl k hk
  have hlay := hts _ (hin _ (u_in_lay hk))
  unfold u_lay at hlay
  rw [if_pos hfin] at hlay
  have hst := (u_facts hfc hkC (u_lays hts hin hk) hi).1
  have hcf : m.cls = cf := by
    obtain ⟨_, _, c', _, _, _, -, -, hf', -, -, -, hown2, -⟩ := Cond.laysFinal_spec hlay
    have e1 : c' = cf := by have := hi.symm.trans hf'; simp at this; exact this.1.symm
    rw [hdecl] at hown2
    rw [← e1]; exact Option.some.inj (hown.symm.trans hown2)
  have h6 := u_fits hfc hkC hkind (Or.inr hlay) hi hd1 hn hfit
  refine W.putFinK C0.hx C0.hb hown (hts _ hw) (hsm.use hts _ hi) hst hcf (C0.hnm.trans hin2) (by rw [q2]; exact h6) q1 q3 (by rw [hsl]; exact k2_hasslot (q4 k hk)) rfl rfl hd fun H' e1 e2 e3 => ?_
  rw [hsl] at e1 ⊢
  exact kk H' _ ls (Sh.oset hS h e2 e3 ⟨_, hc, t_OB.to (V := updV (vp_V fs) k v) ⟨_, e1, q2, q3, t_set q4 hap hk v⟩ (fun j _ => vp_updV_set hlen v j)⟩) (hV.put e2 e3 g3) hl
theorem va_S.new {A : Nat → Prop} {H0 H H1 : Heap} {locs : List Loc} (h : va_S A H0 H locs) (z : H1.size = H.size + 1) (o : ∀ q : Nat, q < H.size → H1[q]? = H[q]?) : va_S A H0 H1 locs :=
  ⟨by have := h.1; omega, fun x h1 h2 => (o x (Nat.lt_of_lt_of_le h1 h.1)).trans (h.2.1 x h1 h2), h.2.2⟩
theorem xw_new {ci index N : Nat} {fs : List Value} {C : String} {T : u_T} (ty : Nat → FieldType) (hd : decode q.2.1 pc = .ok (.new index, 3)) (hc : vwCl[ci]? = some (C, T, N)) (hin : ∀ w ∈ u_ws C T N, w ∈ TW) (hty : ∀ k, k < N → parseFieldDescriptor (T k).2.2.1 = some (ty k)) (h20 : ci < 20) (hcl : Cond.classLink q.1.cls index C ∈ TW) (hinst : Cond.instantiable C N ∈ TW) (hini : Cond.initialized C ∈ TW) (hfs : ∀ j, j < N → defaultValue (ty j) = vp_V fs j)
    (kk : XW G d lo q As M0 P (oput (grow M N ci) ci (Sz M) (some fs)) (pc + 3) L (.ref (Sz M) :: st)) : XW G d lo q As M0 P M pc L st := by
  refine xw_h (fun hwf => Wf.newo hwf h20) 1 N rfl rfl (fun p e R s m below meth c Q k' n C0 hR1 hR2 hz hs H locs ls hS hV hl kk => ?_) kk
  have hKn := C0.hK.1 ci _ hc
  refine W.newcK C0.hx C0.hb C0.hown (C0.hts _ hcl) (C0.hts _ hinst) (C0.hts _ hini) rfl hd hz hs hKn.2.1 hS.1 fun H1 kC hkC e1 z1 o1 => ?_
  have z1' : H1.size = H.size + 1 := by rw [z1, hS.1]
  have o1' : ∀ q : Nat, q < H.size → H1[q]? = H[q]? := fun q hq => o1 q (by rw [← hS.1]; exact hq)
  have hA : gA G (Sz M) := C0.hks.fresh _ (by rw [← hS.1]; exact hV.1)
  refine kk H1 locs ls (Sh.oin (Sh.grown hS z1' o1') hA (by rw [Sk_grow, if_pos rfl]) h20 ⟨_, hc, (u_born ty C0.hts hin hKn hkC e1 hty).to hfs⟩) (hV.new z1' o1') hl
/-- arrays of numbers -/
theorem gT_i {s : State} (h : va_K (gD G) vwCl (gT G) s) : ArrOfT s (gI G) .int ∧ va_RA s (gI G) .int := h.2 0 _ rfl
theorem gT_j {s : State} (h : va_K (gD G) vwCl (gT G) s) : ArrOfT s (gJ G) .long ∧ va_RA s (gJ G) .long := h.2 1 _ rfl
theorem gT_r {s : State} (h : va_K (gD G) vwCl (gT G) s) {k : Nat} (hk : k < 3) : ArrOfT s (gR G k) (.object (gN k)) ∧ va_RA s (gR G k) (.object (gN k)) := by
  match k, hk with
  | 0, _ => exact h.2 2 _ rfl
  | 1, _ => exact h.2 3 _ rfl
  | 2, _ => exact h.2 4 _ rfl
theorem xw_newI {n : Int32} {N : Nat} (hw : Cond.arrayClass .int ∈ TW) (hd : decode q.2.1 pc = .ok (.newarray .int, 2)) (hn : ¬ n < 0) (hN : n.toNatClampNeg = N) (hb : N * 4 ≤ 536870912) (kk : XW G d lo q As M0 P (iput (grow M N 20) (Sz M) (some (N, fun _ => 0))) (pc + 2) L (.ref (Sz M) :: st)) : XW G d lo q As M0 P M pc L (.int n :: st) := by
  refine xw_h (fun hwf => Wf.newi hwf) 1 N rfl rfl (fun p e R s m below meth c Q k' n' C0 hR1 hR2 hz hs H locs ls hS hV hl kk => ?_) kk
  refine va_newaK C0.hx C0.hb (atype := .int) (C0.hts _ hw) rfl hd rfl hn hN (by exact hb) hz hs hS.1 fun H1 cA e1 z1 o1 _ hfc => ?_
  have hcA : cA = gI G := by
    have h2 : s.vm.findClass ("[" ++ FieldType.int.toString) = some (gI G) := (gT_i C0.hK).2
    exact Option.some.inj (hfc.symm.trans h2)
  subst hcA
  have z1' : H1.size = H.size + 1 := by rw [z1, hS.1]
  have o1' : ∀ q : Nat, q < H.size → H1[q]? = H[q]? := fun q hq => o1 q (by rw [← hS.1]; exact hq)
  have hA : gA G (Sz M) := C0.hks.fresh _ (by rw [← hS.1]; exact hV.1)
  exact kk H1 locs ls (Sh.iin (Sh.grown hS z1' o1') hA (by rw [Sk_grow, if_pos rfl]) e1) (hV.new z1' o1') hl
theorem xw_newJ {n : Int32} {N : Nat} (hw : Cond.arrayClass .long ∈ TW) (hd : decode q.2.1 pc = .ok (.newarray .long, 2)) (hn : ¬ n < 0) (hN : n.toNatClampNeg = N) (hb : N * 8 ≤ 536870912) (kk : XW G d lo q As M0 P (jput (grow M N 21) (Sz M) (some (N, fun _ => 0))) (pc + 2) L (.ref (Sz M) :: st)) : XW G d lo q As M0 P M pc L (.int n :: st) := by
  refine xw_h (fun hwf => Wf.newj hwf) 1 N rfl rfl (fun p e R s m below meth c Q k' n' C0 hR1 hR2 hz hs H locs ls hS hV hl kk => ?_) kk
  refine va_newaK C0.hx C0.hb (atype := .long) (C0.hts _ hw) rfl hd rfl hn hN (by exact hb) hz hs hS.1 fun H1 cA e1 z1 o1 _ hfc => ?_
  have hcA : cA = gJ G := by
    have h2 : s.vm.findClass ("[" ++ FieldType.long.toString) = some (gJ G) := (gT_j C0.hK).2
    exact Option.some.inj (hfc.symm.trans h2)
  subst hcA
  have z1' : H1.size = H.size + 1 := by rw [z1, hS.1]
  have o1' : ∀ q : Nat, q < H.size → H1[q]? = H[q]? := fun q hq => o1 q (by rw [← hS.1]; exact hq)
  have hA : gA G (Sz M) := C0.hks.fresh _ (by rw [← hS.1]; exact hV.1)
  exact kk H1 locs ls (Sh.jin (Sh.grown hS z1' o1') hA (by rw [Sk_grow, if_pos rfl]) e1) (hV.new z1' o1') hl
theorem ks_AO {s : State} (h : KS G s) {k : Nat} (hk : k < 3) : va_AO (gN k) s := by
  match k, hk with
  | 0, _ => exact h.2.2.1.2.2
  | 1, _ => exact h.2.2.1.2.1
  | 2, _ => exact h.2.2.1.1
theorem xw_newR {k index : Nat} {n : Int32} {N : Nat} (hk : k < 3) (hw : Cond.classLink q.1.cls index (gN k) ∈ TW) (hd : decode q.2.1 pc = .ok (.anewarray index, 3)) (hn : ¬ n < 0) (hN : n.toNatClampNeg = N) (hb : N * 4 ≤ 536870912) (kk : XW G d lo q As M0 P (rput (grow M N (22 + k)) k (Sz M) (some (N, fun _ => none))) (pc + 3) L (.ref (Sz M) :: st)) : XW G d lo q As M0 P M pc L (.int n :: st) := by
  subst hN
  refine xw_h (fun hwf => Wf.newr hwf hk) 1 _ rfl rfl (fun p e R s m below meth c Q k' n' C0 hR1 hR2 hz hs H locs ls hS hV hl kk => ?_) kk
  refine W.anew C0.hx C0.hb C0.hown (C0.hts _ hw) (va_AO.use (ks_AO C0.hks hk)) rfl hd rfl hn hb hz hs fun cA kA comp f1 f2 f3 f4 => ?_
  generalize hH1 : H.push ({ cls := cA, slots := Array.replicate n.toNatClampNeg .null, vm := .none } : Cell) = H1
  have z1 : H1.size = H.size + 1 := by rw [← hH1, Array.size_push]
  have e1 : H1[H.size]? = some (arrV cA n.toNatClampNeg (fun _ => .null)) := by rw [← hH1, Array.getElem?_push_size, ← arrV_new]
  have o1 : ∀ q : Nat, q < H.size → H1[q]? = H[q]? := fun q hq => by rw [← hH1, Array.getElem?_push, if_neg (Nat.ne_of_lt hq)]
  have hcA : cA = gR G k := by
    obtain ⟨_, _, _, _, _, h4⟩ := (gT_r C0.hK hk).2
    exact Option.some.inj (f1.symm.trans h4)
  subst hcA
  have hA : gA G (Sz M) := C0.hks.fresh _ (by rw [← hS.1]; exact hV.1)
  have e2 : hc_r G k (Sz M) n.toNatClampNeg (fun _ => none) H1 := by
    show H1[Sz M]? = _
    rw [← hS.1]
    exact e1
  rw [hS.1]
  exact kk H1 locs ls (Sh.rin (Sh.grown hS z1 o1) hA (by rw [Sk_grow, if_pos rfl]) hk e2) (hV.new z1 o1) hl
theorem xw_iald {a n : Nat} {f : Nat → Int32} {i : Int32} (hd : decode q.2.1 pc = .ok (.iaload, 1)) (h : Si M a = some (n, f)) (hin : vp_in i n) (kk : XW G d lo q As M0 P M (pc + 1) L (.int (f i.toNatClampNeg) :: st)) : XW G d lo q As M0 P M pc L (.int i :: .ref a :: st) :=
  xw_g (fun p e R s m below meth c Q k' n' C0 hR1 hR2 H locs ls hS hV hl kk => by
    have hc := (hS.2.2.1 a _ h).2.2
    have hlt : i.toNatClampNeg < n := Nat.not_le.mp fun q => hin (Or.inr q)
    exact W.iald (v := .int (f i.toNatClampNeg)) C0.hx C0.hb hc ((gT_i C0.hK).1 n (fun j => .int (f j))) (fun q => by cases q) (by show ¬ (i < 0 ∨ (arrV _ _ _).slots.size ≤ _); rw [arrV_size]; exact hin) (by show (arrV _ _ _).slots[_]? = _; rw [arrV_read _ _ hlt]) rfl rfl hd (kk ls hl)) kk
theorem xw_lald {a n : Nat} {f : Nat → Int64} {i : Int32} (hd : decode q.2.1 pc = .ok (.laload, 1)) (h : Sj M a = some (n, f)) (hin : vp_in i n) (kk : XW G d lo q As M0 P M (pc + 1) L (.long (f i.toNatClampNeg) :: st)) : XW G d lo q As M0 P M pc L (.int i :: .ref a :: st) :=
  xw_g (fun p e R s m below meth c Q k' n' C0 hR1 hR2 H locs ls hS hV hl kk => by
    have hc := (hS.2.2.2.1 a _ h).2.2
    have hlt : i.toNatClampNeg < n := Nat.not_le.mp fun q => hin (Or.inr q)
    exact W.lald (v := .long (f i.toNatClampNeg)) C0.hx C0.hb hc ((gT_j C0.hK).1 n (fun j => .long (f j))) (fun q => by cases q) (by show ¬ (i < 0 ∨ (arrV _ _ _).slots.size ≤ _); rw [arrV_size]; exact hin) (by show (arrV _ _ _).slots[_]? = _; rw [arrV_read _ _ hlt]) rfl rfl hd (kk ls hl)) kk
theorem xw_aald {k a n : Nat} {f : Nat → Option Nat} {i : Int32} {v : Value} (hd : decode q.2.1 pc = .ok (.aaload, 1)) (h : Sr M k a = some (n, f)) (hin : vp_in i n) (hv : va_rf (f i.toNatClampNeg) = v) (kk : XW G d lo q As M0 P M (pc + 1) L (v :: st)) : XW G d lo q As M0 P M pc L (.int i :: .ref a :: st) :=
  xw_g (fun p e R s m below meth c Q k' n' C0 hR1 hR2 H locs ls hS hV hl kk => by
    subst hv
    obtain ⟨_, h3, _, hc⟩ := hS.2.2.2.2.1 k a _ h
    have hlt : i.toNatClampNeg < n := Nat.not_le.mp fun q => hin (Or.inr q)
    exact W.aald (v := va_rf (f i.toNatClampNeg)) (ty := .object (gN k)) C0.hx C0.hb hc ((gT_r C0.hK h3).1 n (fun j => va_rf (f j))) rfl (fun q => by cases q) (by show ¬ (i < 0 ∨ (arrV _ _ _).slots.size ≤ _); rw [arrV_size]; exact hin) (by show (arrV _ _ _).slots[_]? = _; rw [arrV_read _ _ hlt]) rfl rfl hd (kk ls hl)) kk
theorem xw_ilen {a n : Nat} {f : Nat → Int32} (hd : decode q.2.1 pc = .ok (.arraylength, 1)) (h : Si M a = some (n, f)) (kk : XW G d lo q As M0 P M (pc + 1) L (.int (nI n) :: st)) : XW G d lo q As M0 P M pc L (.ref a :: st) :=
  xw_g (fun p e R s m below meth c Q k' n' C0 hR1 hR2 H locs ls hS hV hl kk => by
    have hc := (hS.2.2.1 a _ h).2.2
    exact W.alen (n := nI n) C0.hx C0.hb hc ((gT_i C0.hK).1 n (fun j => .int (f j))) (by rw [arrV_size]; rfl) rfl rfl hd (kk ls hl)) kk
theorem xw_rlen {k a n : Nat} {f : Nat → Option Nat} (hd : decode q.2.1 pc = .ok (.arraylength, 1)) (h : Sr M k a = some (n, f)) (kk : XW G d lo q As M0 P M (pc + 1) L (.int (nI n) :: st)) : XW G d lo q As M0 P M pc L (.ref a :: st) :=
  xw_g (fun p e R s m below meth c Q k' n' C0 hR1 hR2 H locs ls hS hV hl kk => by
    obtain ⟨_, h3, _, hc⟩ := hS.2.2.2.2.1 k a _ h
    exact W.alen (n := nI n) C0.hx C0.hb hc ((gT_r C0.hK h3).1 n (fun j => va_rf (f j))) (by rw [arrV_size]; rfl) rfl rfl hd (kk ls hl)) kk
theorem xw_iast {a n : Nat} {f : Nat → Int32} {i x : Int32} (hd : decode q.2.1 pc = .ok (.iastore, 1)) (h : Si M a = some (n, f)) (hin : vp_in i n) (kk : XW G d lo q As M0 P (iput M a (some (n, upd f i.toNatClampNeg x))) (pc + 1) L st) : XW G d lo q As M0 P M pc L (.int x :: .int i :: .ref a :: st) := by
  refine xw_h (M2 := iput M a (some (n, upd f i.toNatClampNeg x))) (fun hwf => Wf.iset hwf h) 0 0 rfl rfl (fun p e R s m below meth c Q k' n' C0 hR1 hR2 hz hs H locs ls hS hV hl kk => ?_) kk
  obtain ⟨h1, h2, hc⟩ := hS.2.2.1 a _ h
  refine W.iast C0.hx C0.hb hc ((gT_i C0.hK).1 n (fun j => .int (f j))) (fun q => by cases q) (by show ¬ (i < 0 ∨ (arrV _ _ _).slots.size ≤ _); rw [arrV_size]; exact hin) rfl rfl hd fun H1 e1 z oq => ?_
  refine kk H1 _ ls (Sh.iset hS h z oq ?_) (hV.put z oq h2) hl
  show H1[a]? = some (arrV _ _ _)
  rw [e1, arrV_store]
  congr 2
  funext j
  by_cases hj : j = i.toNatClampNeg
  · subst hj; simp [updV, upd]
  · simp [updV, upd, hj]
theorem xw_last {a n : Nat} {f : Nat → Int64} {i : Int32} {x : Int64} (hd : decode q.2.1 pc = .ok (.lastore, 1)) (h : Sj M a = some (n, f)) (hin : vp_in i n) (kk : XW G d lo q As M0 P (jput M a (some (n, vp_updL f i.toNatClampNeg x))) (pc + 1) L st) : XW G d lo q As M0 P M pc L (.long x :: .int i :: .ref a :: st) := by
  refine xw_h (M2 := jput M a (some (n, vp_updL f i.toNatClampNeg x))) (fun hwf => Wf.jset hwf h) 0 0 rfl rfl (fun p e R s m below meth c Q k' n' C0 hR1 hR2 hz hs H locs ls hS hV hl kk => ?_) kk
  obtain ⟨h1, h2, hc⟩ := hS.2.2.2.1 a _ h
  refine W.last C0.hx C0.hb hc ((gT_j C0.hK).1 n (fun j => .long (f j))) (fun q => by cases q) (by show ¬ (i < 0 ∨ (arrV _ _ _).slots.size ≤ _); rw [arrV_size]; exact hin) rfl rfl hd fun H1 e1 z oq => ?_
  refine kk H1 _ ls (Sh.jset hS h z oq ?_) (hV.put z oq h2) hl
  show H1[a]? = some (arrV _ _ _)
  rw [e1, arrV_store]
  congr 2
  funext j
  by_cases hj : j = i.toNatClampNeg
  · subst hj; simp [updV, vp_updL]
  · simp [updV, vp_updL, hj]
/-- null into an array of references -/
theorem xw_aastN {k a n : Nat} {f : Nat → Option Nat} {i : Int32} (hd : decode q.2.1 pc = .ok (.aastore, 1)) (h : Sr M k a = some (n, f)) (hin : vp_in i n) (kk : XW G d lo q As M0 P (rput M k a (some (n, va_up f i.toNatClampNeg none))) (pc + 1) L st) : XW G d lo q As M0 P M pc L (.null :: .int i :: .ref a :: st) := by
  refine xw_h (M2 := rput M k a (some (n, va_up f i.toNatClampNeg none))) (fun hwf => Wf.rset hwf h) 0 0 rfl rfl (fun p e R s m below meth c Q k' n' C0 hR1 hR2 hz hs H locs ls hS hV hl kk => ?_) kk
  obtain ⟨h1, h3, h2, hc⟩ := hS.2.2.2.2.1 k a _ h
  refine va_WaastN (C := gN k) C0.hx C0.hb hc ((gT_r C0.hK h3).1 n (fun j => va_rf (f j))) (fun q => by cases q) (by show ¬ (i < 0 ∨ (arrV _ _ _).slots.size ≤ _); rw [arrV_size]; exact hin) rfl rfl hd fun H1 e1 z oq => ?_
  refine kk H1 _ ls (Sh.rset hS h z oq ?_) (hV.put z oq h2) hl
  show H1[a]? = some (arrV _ _ _)
  rw [e1, arrV_store]
  congr 2
  funext j
  by_cases hj : j = i.toNatClampNeg
  · subst hj; simp [updV, va_up, va_rf]
  · simp [updV, va_up, hj]
/-- an object into an array of references: its class fits what the array is over -/
theorem xw_aast {k a n ci v N : Nat} {f : Nat → Option Nat} {i : Int32} {vs : List Value} {C : String} {T : u_T} (hd : decode q.2.1 pc = .ok (.aastore, 1)) (h : Sr M k a = some (n, f)) (hin : vp_in i n) (hv : So M ci v = some vs) (hc0 : vwCl[ci]? = some (C, T, N)) (hfit : ∀ s : State, KS G s → ∀ cC : ClassId, ∀ comp : ClassId, s.vm.findClass C = some cC → s.vm.findClass (gN k) = some comp → s.vm.assignable cC comp = true)
    (kk : XW G d lo q As M0 P (rput M k a (some (n, va_up f i.toNatClampNeg (some v)))) (pc + 1) L st) : XW G d lo q As M0 P M pc L (.ref v :: .int i :: .ref a :: st) := by
  refine xw_h (M2 := rput M k a (some (n, va_up f i.toNatClampNeg (some v)))) (fun hwf => Wf.rset hwf h) 0 0 rfl rfl (fun p e R s m below meth c Q k' n' C0 hR1 hR2 hz hs H locs ls hS hV hl kk => ?_) kk
  obtain ⟨h1, h3, h2, hc⟩ := hS.2.2.2.2.1 k a _ h
  have hlt : i.toNatClampNeg < n := Nat.not_le.mp fun q => hin (Or.inr q)
  have h0 : ¬ i < 0 := fun q => hin (Or.inl q)
  obtain ⟨-, -, -, r', hr', cellV, g1, g2, g3, -⟩ := hS.2.1 ci v vs hv
  have hcls := (C0.hK.1 ci _ hc0).2
  obtain ⟨kA, comp, k1, k2, k3, -⟩ := (gT_r C0.hK h3).2
  obtain ⟨kC, hkC, -⟩ := hcls.2
  obtain ⟨kComp, hkComp, -⟩ := Vm.findClass_spec k3
  have hasg := hfit s C0.hks _ _ hcls.1 k3
  refine W.aast C0.hx C0.hb hc (fun q h => by cases h) (fun h => by cases h) k1 k2 rfl hkComp ⟨h0, by show _ < (arrV _ _ _).slots.size; rw [arrV_size]; exact hlt⟩ g1 (fun q h => by rw [g3] at h; cases h) (by rw [g2]; exact hkC) (by rw [g2]; exact hasg) rfl rfl hd fun H1 e1 z oq => ?_
  refine kk H1 _ ls (Sh.rset hS h z oq ?_) (hV.put z oq h2) hl
  show H1[a]? = some (arrV _ _ _)
  rw [e1, arrV_store]
  congr 2
  funext j
  by_cases hj : j = i.toNatClampNeg
  · subst hj; simp [updV, va_up, va_rf]
  · simp [updV, va_up, hj]
theorem fit_same {C : String} {k ci N : Nat} {T : u_T} (hc0 : vwCl[ci]? = some (C, T, N)) (e : gN k = C) : ∀ s : State, KS G s → ∀ cC : ClassId, ∀ comp : ClassId, s.vm.findClass C = some cC → s.vm.findClass (gN k) = some comp → s.vm.assignable cC comp = true := by
  intro s h cC comp h1 h2
  rw [e] at h2
  cases h1.symm.trans h2
  have := (h.1.1 ci _ hc0).2
  have e2 : (gD G).1 ci = cC := Option.some.inj (this.1.symm.trans h1)
  rw [e2] at this
  exact va_assign this
theorem fit_cast {C : String} (hw : ∀ s : State, KS G s → va_Nw (.castable C "java/lang/Object") s) : ∀ s : State, KS G s → ∀ cC : ClassId, ∀ comp : ClassId, s.vm.findClass C = some cC → s.vm.findClass (gN 2) = some comp → s.vm.assignable cC comp = true := by
  intro s h cC comp h1 h2
  obtain ⟨c0, t0, f1, f2, f3⟩ := Cond.castable_spec (va_Nw.use (A := #[]) rfl (hw s h))
  cases h1.symm.trans f1
  cases h2.symm.trans f2
  exact f3
/-- statics, and the tables that they hold -/
theorem xw_gets {index t : Nat} {n : String} {tab : List Int32} (hw : Cond.fieldLink q.1.cls index RX9 n "[I" ∈ TW) (hd : decode q.2.1 pc = .ok (.getstatic index, 3)) (hZ : ∀ s : State, KS G s → ks_T G n t tab s s.heap) (kk : XW G d lo q As M0 P M (pc + 3) L (.ref t :: st)) : XW G d lo q As M0 P M pc L st :=
  xw_g (fun p e R s m below meth c Q k' n' C0 hR1 hR2 H locs ls hS hV hl kk => va_gets C0.hx C0.hb (hZ s C0.hks).1 hV C0.hown (C0.hts _ hw) (fun x hx => hx) hd (kk ls hl)) kk
theorem xw_tald {t : Nat} {n : String} {tab : List Int32} {i v : Int32} (hd : decode q.2.1 pc = .ok (.iaload, 1)) (hZ : ∀ s : State, KS G s → ks_T G n t tab s s.heap) (hin : vp_in i 18) (hv : tab.getD i.toNatClampNeg 0 = v) (kk : XW G d lo q As M0 P M (pc + 1) L (.int v :: st)) : XW G d lo q As M0 P M pc L (.int i :: .ref t :: st) :=
  xw_g (fun p e R s m below meth c Q k' n' C0 hR1 hR2 H locs ls hS hV hl kk => va_ti C0.hx C0.hb (hZ s C0.hks).2 hV hin (by show Value.int _ = _; rw [hv]) hd (kk ls hl)) kk
theorem xw_tlen {t : Nat} {n : String} {tab : List Int32} (hd : decode q.2.1 pc = .ok (.arraylength, 1)) (hZ : ∀ s : State, KS G s → ks_T G n t tab s s.heap) (kk : XW G d lo q As M0 P M (pc + 1) L (.int 18 :: st)) : XW G d lo q As M0 P M pc L (.ref t :: st) :=
  xw_g (fun p e R s m below meth c Q k' n' C0 hR1 hR2 H locs ls hS hV hl kk => va_tlen C0.hx C0.hb (hZ s C0.hks).2 hV rfl hd (kk ls hl)) kk
theorem ks_P {s : State} (h : KS G s) : ks_T G "PORTS" (gP G) tabP s s.heap := h.2.2.2.2.2.2.1
theorem ks_X {s : State} (h : KS G s) : ks_T G "WANTED_X" (gX G) tabX s s.heap := h.2.2.2.2.2.2.2.1
theorem ks_Y {s : State} (h : KS G s) : ks_T G "WANTED_Y" (gY G) tabY s s.heap := h.2.2.2.2.2.2.2.2
/-- a cast to the object's own class -/
theorem xw_cast {ci a index N : Nat} {fs : List Value} {C : String} {T : u_T} (hd : decode q.2.1 pc = .ok (.checkcast index, 3)) (h : So M ci a = some fs) (hc : vwCl[ci]? = some (C, T, N)) (hw : Cond.classLink q.1.cls index C ∈ TW) (kk : XW G d lo q As M0 P M (pc + 3) L (.ref a :: st)) : XW G d lo q As M0 P M pc L (.ref a :: st) :=
  xw_g (fun p e R s m below meth c Q k' n' C0 hR1 hR2 H locs ls hS hV hl kk => va_castS C0.hx C0.hb C0.hown (C0.hts _ hw) (C0.hK.1 ci _ hc).2 (va_recv C0.hK (va_P1 (hS.2.1 ci a fs h).2.2.2) hc (q0 := 0) rfl) hd (kk ls hl)) kk
/-- Object's constructor -/
theorem xw_obj {a index : Nat} (hd : decode q.2.1 pc = .ok (.invokespecial index, 3)) (hw : Cond.methodLink q.1.cls index objectInit ∈ TW) (hw2 : Cond.instanceMethod objectInit ∈ TW) (hw3 : Cond.code objectInit ⟨#[0xb1]⟩ 1 none ∈ TW) (hf : 1 ≤ d) (hlo : (st.map fun v => v.category).sum + 12 ≤ lo) (kk : XW G d lo q As M0 P M (pc + 3) L st) : XW G d lo q As M0 P M pc L (.ref a :: st) :=
  xw_g (fun p e R s m below meth c Q k' n' C0 hR1 hR2 H locs ls hS hV hl kk => W.objInit C0.hx C0.hb C0.hown (C0.hts _ hw) (C0.hts _ hw2) (C0.hts _ hw3) rfl (by rw [C0.hml]; exact hl.1) rfl hd (by rw [← hR1]; exact hf) (by rw [← hR2]; show 2 * 0 + _ + 12 ≤ lo; omega) (kk ls hl)) kk
theorem xw_min {index : Nat} {x y : Int32} (hd : decode q.2.1 pc = .ok (.invokestatic index, 3)) (hw : Cond.methodLink q.1.cls index Lib.Math.min.name ∈ TW) (hw2 : Cond.static Lib.Math.min.name ∈ TW) (hw3 : Cond.initialized "java/lang/Math" ∈ TW) (hw4 : Cond.code Lib.Math.min.name Lib.Math.min.code 2 (some .int) ∈ TW) (hf : 1 ≤ d) (hlo : (st.map fun v => v.category).sum + 13 ≤ lo) (kk : XW G d lo q As M0 P M (pc + 3) L (.int (if y < x then y else x) :: st)) : XW G d lo q As M0 P M pc L (.int y :: .int x :: st) :=
  xw_h id 0 0 rfl rfl (fun p e R s m below meth c Q k' n' C0 hR1 hR2 hz hs H locs ls hS hV hl kk => va_mmin C0.hx C0.hb (by rw [C0.hml]; exact hl.1.symm) C0.hown (C0.hts _ hw) (C0.hts _ hw2) (C0.hts _ hw3) (C0.hts _ hw4) (by rw [← hR1]; exact hf) (by rw [← hR2]; exact hlo) hz hs hd (kk H locs ls hS hV hl)) kk
theorem xw_max {index : Nat} {x y : Int32} (hd : decode q.2.1 pc = .ok (.invokestatic index, 3)) (hw : Cond.methodLink q.1.cls index Lib.Math.max.name ∈ TW) (hw2 : Cond.static Lib.Math.max.name ∈ TW) (hw3 : Cond.initialized "java/lang/Math" ∈ TW) (hw4 : Cond.code Lib.Math.max.name Lib.Math.max.code 2 (some .int) ∈ TW) (hf : 1 ≤ d) (hlo : (st.map fun v => v.category).sum + 13 ≤ lo) (kk : XW G d lo q As M0 P M (pc + 3) L (.int (if x < y then y else x) :: st)) : XW G d lo q As M0 P M pc L (.int y :: .int x :: st) :=
  xw_h id 0 0 rfl rfl (fun p e R s m below meth c Q k' n' C0 hR1 hR2 hz hs H locs ls hS hV hl kk => va_mmax C0.hx C0.hb (by rw [C0.hml]; exact hl.1.symm) C0.hown (C0.hts _ hw) (C0.hts _ hw2) (C0.hts _ hw3) (C0.hts _ hw4) (by rw [← hR1]; exact hf) (by rw [← hR2]; exact hlo) hz hs hd (kk H locs ls hS hV hl)) kk
/-! calls -/
theorem blind (As : List Value) (M : hx_S) : FrameBlind (va_Pc As (fun U => hx_Pre G M U)) := fun a U g mk h => ⟨h.1, h.2.1, h.2.2.same rfl rfl⟩
theorem xw_ret {rest : List Value} {r : Option Value} {M1 : hx_S} (hwf1 : Wf M1) (hl1 : hle M M1) (hr : ∀ (p : Program) (e : Env) (R : Room) (s : State) (m : MethodId) (below : List Frame) (meth : Method) (c : Code) (k n : Nat), hx_C G q M0 p s m As.toArray meth c → d = R.frames → lo = R.locals → k + (Sz M1 - Sz M) ≤ R.cells → n + (Sl M1 - Sl M) ≤ R.slots →
      ∀ (H : Heap) (locs : List Loc) (ls : Array Slot), Sh G M H → va_S (gA G) s.heap H locs → lv_has ls q.2.2.1 L → ∃ a, va_Run p (gL G) e R s m As.toArray below meth c H locs k n (Sz M1 - Sz M) (Sl M1 - Sl M) (F0 m pc ls st) rest (hx_Q G M1 r a) (gA G))
    (kk : XW G d lo q As M0 P M1 (pc + 3) L (r.toList ++ rest)) : XW G d lo q As M0 P M pc L st := by
  refine xw_h (fun _ => hwf1) (Sz M1 - Sz M) (Sl M1 - Sl M) (by have := hl1.1; omega) (by have := hl1.2; omega) (fun p e R s m below meth c Q k' n' C0 hR1 hR2 hz hs H locs ls hS hV hl kk => ?_) kk
  obtain ⟨a, hrun⟩ := hr p e R s m below meth c k' n' C0 hR1 hR2 hz hs H locs ls hS hV hl
  intro T hT X
  obtain ⟨v, st₀, t, T', Lo, h0, X', hL, e1, e2, ⟨hv, hPre, hzz, hkk⟩, stp⟩ := hrun T hT X
  cases hv
  rw [h0] at hzz hkk
  have hV2 : va_S (gA G) s.heap T'.heap (locs ++ Lo) := ⟨by rw [e1]; exact Nat.le_trans hV.1 hzz, fun x h1 h2 => by rw [e1, hkk x (Nat.lt_of_lt_of_le h1 hV.1) h2]; exact hV.2.1 x h1 h2, fun x hx => by
    rcases List.mem_append.mp hx with h | h
    · exact hV.2.2 x h
    · exact hL x h⟩
  obtain ⟨t2, a1, b1⟩ := kk T'.heap (locs ++ Lo) ls (by rw [e1]; exact hPre.1) hV2 hl T' rfl X'
  exact ⟨t2, stp t2 a1, b1⟩
theorem hx_good {q q2 : hx_M} (h2 : Cond.code q2.1 q2.2.1 q2.2.2.1 q2.2.2.2 ∈ TW) : GoodIn (hx_w q) (hx_w q2) := by
  intro w hw
  rcases List.mem_cons.mp hw with e | e
  · subst e
    exact ⟨List.mem_cons_of_mem _ h2, (TW_good _ h2).2⟩
  · exact ⟨List.mem_cons_of_mem _ e, (TW_good _ e).2⟩
/-- a call by the receiver's class -/
theorem xw_callV {q2 : hx_M} {d2 lo2 b ci index N n2 : Nat} {Bs rest : List Value} {C : String} {T : u_T} {P2 : Option Value → hx_S → Prop} (hct : CT G d2 lo2 q2 (.ref b :: Bs) M P2) (hd : decode q.2.1 pc = .ok (.invokevirtual index, 3)) (hst : st = Bs.reverse ++ .ref b :: rest)
    (hcell : ∀ H : Heap, Sh G M H → ∃ ws, va_at (gD G) vwCl (b, .inr (ci, ws)) H) (hc : vwCl[ci]? = some (C, T, N)) (hy : q2.1.cls = C) (hw1 : Cond.methodLink q.1.cls index q2.1 ∈ TW) (hw2 : Cond.instanceMethod q2.1 ∈ TW) (hw3 : Cond.selects C q2.1 q2.1 ∈ TW) (hw4 : Cond.initialized C ∈ TW) (hw5 : Cond.code q2.1 q2.2.1 q2.2.2.1 q2.2.2.2 ∈ TW)
    (hdsc : q2.1.cls ≠ "java/lang/invoke/MethodHandle" ∧ q2.1.cls ≠ "java/lang/invoke/VarHandle" ∧ (parseMethodDescriptor q2.1.desc).map (fun d => d.parameters.length) = some n2) (hn : Bs.length = n2) (hrest : (rest.map fun v => v.category).sum ≤ 8) (hfr : d2 + 1 ≤ d) (hlo : 8 + (q2.2.2.1 + 11) + lo2 ≤ lo)
    (kk : ∀ (r : Option Value) (M1 : hx_S), P2 r M1 → hle M M1 → XW G d lo q As M0 P M1 (pc + 3) L (r.toList ++ rest)) : XW G d lo q As M0 P M pc L st := by
  refine xw_wf fun hwf => ?_
  obtain ⟨r, M1, hP2, hl1, hwf1, hM⟩ := hct hwf
  refine xw_ret (rest := rest) (r := r) hwf1 hl1 (fun p e R s m below meth c k' n' C0 hR1 hR2 hz hs H locs ls hS hV hl => ?_) (kk r M1 hP2 hl1)
  obtain ⟨ws, hat⟩ := hcell H hS
  have hG : GoodIn (hx_w q) (wsV q.1.cls index C q2.1 (hx_w q2)) := by
    intro w hw
    rcases List.mem_append.mp hw with e | e
    · have hin : w ∈ TW := by
        simp only [List.mem_cons, List.not_mem_nil, or_false] at e
        rcases e with e | e | e | e <;> (subst e; assumption)
      exact ⟨List.mem_cons_of_mem _ hin, (TW_good _ hin).2⟩
    · exact hx_good hw5 w e
  refine ⟨_, va_runV (As := Bs) (rest := rest) (g := F0 m pc ls st) ⟨C0.hx, C0.hb, C0.hml, C0.hown, C0.hts0⟩ hM (cwV n2 C0.hts0 hG rfl rfl rfl ⟨hy, hdsc⟩ ⟨by rw [← hR1]; exact hfr, by rw [← hR2]; exact hlo⟩) ⟨blind _ _, va_recv C0.hK (va_P1 hat) hc (q0 := 0) rfl, fun U hU hW => ⟨rfl, by rw [hU]; exact hS, C0.hks.go hW (by rw [hU]; exact hV.1) (fun a ha hna => by rw [hU]; exact hV.2.1 a ha hna)⟩⟩ rfl hn hl.1 hst (lv_room hrest) hd ⟨hz, hs⟩⟩
theorem xw_callS {q2 : hx_M} {d2 lo2 index n2 : Nat} {Bs rest : List Value} {P2 : Option Value → hx_S → Prop} (hct : CT G d2 lo2 q2 Bs M P2) (hd : decode q.2.1 pc = .ok (.invokestatic index, 3)) (hst : st = Bs.reverse ++ rest)
    (hw1 : Cond.methodLink q.1.cls index q2.1 ∈ TW) (hw2 : Cond.static q2.1 ∈ TW) (hw4 : Cond.initialized q2.1.cls ∈ TW) (hw5 : Cond.code q2.1 q2.2.1 q2.2.2.1 q2.2.2.2 ∈ TW)
    (hdsc : q2.1.cls ≠ "java/lang/invoke/MethodHandle" ∧ q2.1.cls ≠ "java/lang/invoke/VarHandle" ∧ (parseMethodDescriptor q2.1.desc).map (fun d => d.parameters.length) = some n2) (hn : Bs.length = n2) (hrest : (rest.map fun v => v.category).sum ≤ 8) (hfr : d2 + 1 ≤ d) (hlo : 8 + (q2.2.2.1 + 11) + lo2 ≤ lo)
    (kk : ∀ (r : Option Value) (M1 : hx_S), P2 r M1 → hle M M1 → XW G d lo q As M0 P M1 (pc + 3) L (r.toList ++ rest)) : XW G d lo q As M0 P M pc L st := by
  refine xw_wf fun hwf => ?_
  obtain ⟨r, M1, hP2, hl1, hwf1, hM⟩ := hct hwf
  refine xw_ret (rest := rest) (r := r) hwf1 hl1 (fun p e R s m below meth c k' n' C0 hR1 hR2 hz hs H locs ls hS hV hl => ?_) (kk r M1 hP2 hl1)
  have hG : GoodIn (hx_w q) (va_wsS q.1.cls index q2.1 (hx_w q2)) := by
    intro w hw
    rcases List.mem_append.mp hw with e | e
    · have hin : w ∈ TW := by
        simp only [List.mem_cons, List.not_mem_nil, or_false] at e
        rcases e with e | e | e <;> (subst e; assumption)
      exact ⟨List.mem_cons_of_mem _ hin, (TW_good _ hin).2⟩
    · exact hx_good hw5 w e
  refine ⟨_, va_runS (As := Bs) (rest := rest) (g := F0 m pc ls st) ⟨C0.hx, C0.hb, C0.hml, C0.hown, C0.hts0⟩ hM (va_cwS n2 C0.hts0 hG rfl rfl rfl hdsc ⟨by rw [← hR1]; exact hfr, by rw [← hR2]; exact hlo⟩) ⟨blind _ _, fun U hU hW => ⟨rfl, by rw [hU]; exact hS, C0.hks.go hW (by rw [hU]; exact hV.1) (fun a ha hna => by rw [hU]; exact hV.2.1 a ha hna)⟩⟩ rfl hn hl.1 hst (lv_room hrest) hd ⟨hz, hs⟩⟩
theorem xw_callI {q2 : hx_M} {d2 lo2 b index n2 : Nat} {Bs rest : List Value} {P2 : Option Value → hx_S → Prop} (hct : CT G d2 lo2 q2 (.ref b :: Bs) M P2) (hrt : q2.2.2.2 = none) (hd : decode q.2.1 pc = .ok (.invokespecial index, 3)) (hst : st = Bs.reverse ++ .ref b :: rest)
    (hy1 : q2.1.name = "<init>") (hw1 : Cond.methodLink q.1.cls index q2.1 ∈ TW) (hw2 : Cond.instanceMethod q2.1 ∈ TW) (hw4 : Cond.initialized q2.1.cls ∈ TW) (hw5 : Cond.code q2.1 q2.2.1 q2.2.2.1 q2.2.2.2 ∈ TW)
    (hdsc : q2.1.cls ≠ "java/lang/invoke/MethodHandle" ∧ q2.1.cls ≠ "java/lang/invoke/VarHandle" ∧ (parseMethodDescriptor q2.1.desc).map (fun d => d.parameters.length) = some n2) (hn : Bs.length = n2) (hrest : (rest.map fun v => v.category).sum ≤ 8) (hfr : d2 + 1 ≤ d) (hlo : 8 + (q2.2.2.1 + 11) + lo2 ≤ lo)
    (kk : ∀ (r : Option Value) (M1 : hx_S), P2 r M1 → hle M M1 → XW G d lo q As M0 P M1 (pc + 3) L (r.toList ++ rest)) : XW G d lo q As M0 P M pc L st := by
  refine xw_wf fun hwf => ?_
  obtain ⟨r, M1, hP2, hl1, hwf1, hM⟩ := hct hwf
  refine xw_ret (rest := rest) (r := r) hwf1 hl1 (fun p e R s m below meth c k' n' C0 hR1 hR2 hz hs H locs ls hS hV hl => ?_) (kk r M1 hP2 hl1)
  obtain ⟨y2, cc2, mL2, rt2⟩ := q2
  simp only at hrt
  subst hrt
  refine ⟨_, va_runI (As := Bs) (rest := rest) (g := F0 m pc ls st) ⟨C0.hx, C0.hb, C0.hml, C0.hown, C0.hts0⟩ hM ⟨callB_of n2 C0.hts0 (hx_good hw5) rfl rfl rfl (C0.hts _ hw4) (C0.hts _ hw1) hdsc ⟨by rw [← hR1]; exact hfr, by rw [← hR2]; exact hlo⟩, hy1, C0.hts _ hw2⟩ ⟨blind _ _, fun U hU hW => ⟨rfl, by rw [hU]; exact hS, C0.hks.go hW (by rw [hU]; exact hV.1) (fun a ha hna => by rw [hU]; exact hV.2.1 a ha hna)⟩⟩ rfl hn hl.1 hst (lv_room hrest) hd ⟨hz, hs⟩⟩
end XR2
end
section
/-! the methods: name, code, locals, type -/
abbrev mJ15_checkIndex_7cf53 : hx_M := (yJ15_checkIndex_7cf53, cJ15_checkIndex_7cf53, 2, (some FieldType.int))
abbrev mJ3_checkIndex_8e157 : hx_M := (yJ3_checkIndex_8e157, cJ3_checkIndex_8e157, 3, (some FieldType.int))
abbrev mJ7_copyOf_1904c : hx_M := (yJ7_copyOf_1904c, cJ7_copyOf_1904c, 2, (some (FieldType.array (FieldType.object "java/lang/Object"))))
abbrev mJ7_copyOf_6403c : hx_M := (yJ7_copyOf_6403c, cJ7_copyOf_6403c, 4, (some (FieldType.array (FieldType.object "java/lang/Object"))))
abbrev mJ8_hugeLength_7cf53 : hx_M := (yJ8_hugeLength_7cf53, cJ8_hugeLength_7cf53, 3, (some FieldType.int))
abbrev mJ8_newLength_cabcc : hx_M := (yJ8_newLength_cabcc, cJ8_newLength_cabcc, 4, (some FieldType.int))
abbrev mJ9_max_7cf53 : hx_M := (yJ9_max_7cf53, cJ9_max_7cf53, 2, (some FieldType.int))
abbrev mJ9_min_7cf53 : hx_M := (yJ9_min_7cf53, cJ9_min_7cf53, 2, (some FieldType.int))
abbrev mJx4a65c_add_72be8 : hx_M := (yJx4a65c_add_72be8, cJx4a65c_add_72be8, 4, (none : Option FieldType))
abbrev mJx4a65c_add_9ea2d : hx_M := (yJx4a65c_add_9ea2d, cJx4a65c_add_9ea2d, 2, (some FieldType.boolean))
abbrev mJx4a65c_clear_da8c8 : hx_M := (yJx4a65c_clear_da8c8, cJx4a65c_clear_da8c8, 4, (none : Option FieldType))
abbrev mJx4a65c_elementData_915e3 : hx_M := (yJx4a65c_elementData_915e3, cJx4a65c_elementData_915e3, 2, (some (FieldType.object "java/lang/Object")))
abbrev mJx4a65c_fastRemove_b59b0 : hx_M := (yJx4a65c_fastRemove_b59b0, cJx4a65c_fastRemove_b59b0, 4, (none : Option FieldType))
abbrev mJx4a65c_get_915e3 : hx_M := (yJx4a65c_get_915e3, cJx4a65c_get_915e3, 2, (some (FieldType.object "java/lang/Object")))
abbrev mJx4a65c_grow_92f84 : hx_M := (yJx4a65c_grow_92f84, cJx4a65c_grow_92f84, 4, (some (FieldType.array (FieldType.object "java/lang/Object"))))
abbrev mJx4a65c_grow_d5877 : hx_M := (yJx4a65c_grow_d5877, cJx4a65c_grow_d5877, 1, (some (FieldType.array (FieldType.object "java/lang/Object"))))
abbrev mJx4a65c_init_da8c8 : hx_M := (yJx4a65c_init_da8c8, cJx4a65c_init_da8c8, 1, (none : Option FieldType))
abbrev mJx4a65c_isEmpty_aae02 : hx_M := (yJx4a65c_isEmpty_aae02, cJx4a65c_isEmpty_aae02, 1, (some FieldType.boolean))
abbrev mJx4a65c_remove_915e3 : hx_M := (yJx4a65c_remove_915e3, cJx4a65c_remove_915e3, 4, (some (FieldType.object "java/lang/Object")))
abbrev mJx4a65c_size_8abf5 : hx_M := (yJx4a65c_size_8abf5, cJx4a65c_size_8abf5, 1, (some FieldType.int))
abbrev mJxa1e45_init_da8c8 : hx_M := (yJxa1e45_init_da8c8, cJxa1e45_init_da8c8, 1, (none : Option FieldType))
abbrev mJxc12de_init_da8c8 : hx_M := (yJxc12de_init_da8c8, cJxc12de_init_da8c8, 1, (none : Option FieldType))
abbrev mX0_init : hx_M := (yX0_init, cX0_init, 4, (none : Option FieldType))
abbrev mX10_arc : hx_M := (yX10_arc, cX10_arc, 7, (some FieldType.boolean))
abbrev mX10_atCell : hx_M := (yX10_atCell, cX10_atCell, 5, (none : Option FieldType))
abbrev mX10_callOrBack : hx_M := (yX10_callOrBack, cX10_callOrBack, 4, (none : Option FieldType))
abbrev mX10_cell : hx_M := (yX10_cell, cX10_cell, 7, (some FieldType.long))
abbrev mX10_clear : hx_M := (yX10_clear, cX10_clear, 2, (none : Option FieldType))
abbrev mX10_comes : hx_M := (yX10_comes, cX10_comes, 7, (none : Option FieldType))
abbrev mX10_context : hx_M := (yX10_context, cX10_context, 3, (some FieldType.int))
abbrev mX10_contextOf : hx_M := (yX10_contextOf, cX10_contextOf, 5, (some FieldType.int))
abbrev mX10_errorOf : hx_M := (yX10_errorOf, cX10_errorOf, 4, (some FieldType.int))
abbrev mX10_gather : hx_M := (yX10_gather, cX10_gather, 7, (none : Option FieldType))
abbrev mX10_go : hx_M := (yX10_go, cX10_go, 5, (none : Option FieldType))
abbrev mX10_init : hx_M := (yX10_init, cX10_init, 1, (none : Option FieldType))
abbrev mX10_isNode : hx_M := (yX10_isNode, cX10_isNode, 2, (some FieldType.boolean))
abbrev mX10_keepResult : hx_M := (yX10_keepResult, cX10_keepResult, 2, (none : Option FieldType))
abbrev mX10_make : hx_M := (yX10_make, cX10_make, 5, (none : Option FieldType))
abbrev mX10_node : hx_M := (yX10_node, cX10_node, 3, (some FieldType.int))
abbrev mX10_part : hx_M := (yX10_part, cX10_part, 5, (none : Option FieldType))
abbrev mX10_ports : hx_M := (yX10_ports, cX10_ports, 1, (some FieldType.int))
abbrev mX10_raise : hx_M := (yX10_raise, cX10_raise, 2, (some FieldType.int))
abbrev mX10_ready : hx_M := (yX10_ready, cX10_ready, 3, (some FieldType.int))
abbrev mX10_reckon : hx_M := (yX10_reckon, cX10_reckon, 10, (none : Option FieldType))
abbrev mX10_result : hx_M := (yX10_result, cX10_result, 3, (some FieldType.long))
abbrev mX10_run : hx_M := (yX10_run, cX10_run, 8, (some FieldType.int))
abbrev mX10_send : hx_M := (yX10_send, cX10_send, 8, (none : Option FieldType))
abbrev mX10_sendError : hx_M := (yX10_sendError, cX10_sendError, 4, (none : Option FieldType))
abbrev mX10_serve : hx_M := (yX10_serve, cX10_serve, 6, (none : Option FieldType))
abbrev mX10_store : hx_M := (yX10_store, cX10_store, 5, (none : Option FieldType))
abbrev mX10_take : hx_M := (yX10_take, cX10_take, 4, (none : Option FieldType))
abbrev mX10_thrown : hx_M := (yX10_thrown, cX10_thrown, 1, (some FieldType.int))
abbrev mX10_token : hx_M := (yX10_token, cX10_token, 5, (some FieldType.boolean))
abbrev mX10_total : hx_M := (yX10_total, cX10_total, 2, (some FieldType.int))
abbrev mX10_turn : hx_M := (yX10_turn, cX10_turn, 5, (none : Option FieldType))
abbrev mX10_waiting : hx_M := (yX10_waiting, cX10_waiting, 5, (some FieldType.int))
abbrev mX10_waits : hx_M := (yX10_waits, cX10_waits, 5, (some FieldType.int))
abbrev mX1_init : hx_M := (yX1_init, cX1_init, 2, (none : Option FieldType))
abbrev mX1_isWritten : hx_M := (yX1_isWritten, cX1_isWritten, 1, (some FieldType.boolean))
abbrev mX2_at : hx_M := (yX2_at, cX2_at, 6, (some (FieldType.object "TokenHouse$Cell")))
abbrev mX2_forgetAll : hx_M := (yX2_forgetAll, cX2_forgetAll, 2, (none : Option FieldType))
abbrev mX2_init : hx_M := (yX2_init, cX2_init, 2, (none : Option FieldType))
abbrev mX2_makeArray : hx_M := (yX2_makeArray, cX2_makeArray, 5, (some FieldType.int))
abbrev mX3_firstRoundOf : hx_M := (yX3_firstRoundOf, cX3_firstRoundOf, 2, (some FieldType.int))
abbrev mX3_forgetAll : hx_M := (yX3_forgetAll, cX3_forgetAll, 1, (none : Option FieldType))
abbrev mX3_has : hx_M := (yX3_has, cX3_has, 2, (some FieldType.boolean))
abbrev mX3_init : hx_M := (yX3_init, cX3_init, 1, (none : Option FieldType))
abbrev mX3_nextRoundOf : hx_M := (yX3_nextRoundOf, cX3_nextRoundOf, 2, (some FieldType.int))
abbrev mX3_numberOf : hx_M := (yX3_numberOf, cX3_numberOf, 5, (some FieldType.int))
abbrev mX3_outsideOf : hx_M := (yX3_outsideOf, cX3_outsideOf, 2, (some FieldType.int))
abbrev mX3_siteOf : hx_M := (yX3_siteOf, cX3_siteOf, 2, (some FieldType.int))
abbrev mX4_empty : hx_M := (yX4_empty, cX4_empty, 2, (none : Option FieldType))
abbrev mX4_holds : hx_M := (yX4_holds, cX4_holds, 2, (some FieldType.boolean))
abbrev mX4_init : hx_M := (yX4_init, cX4_init, 5, (none : Option FieldType))
abbrev mX4_put : hx_M := (yX4_put, cX4_put, 3, (none : Option FieldType))
abbrev mX5_init : hx_M := (yX5_init, cX5_init, 2, (none : Option FieldType))
abbrev mX5_take : hx_M := (yX5_take, cX5_take, 4, (some (FieldType.object "TokenHouse$Frame")))
abbrev mX5_takeAllBack : hx_M := (yX5_takeAllBack, cX5_takeAllBack, 2, (none : Option FieldType))
abbrev mX5_takeBack : hx_M := (yX5_takeBack, cX5_takeBack, 2, (none : Option FieldType))
abbrev mX6_addArc : hx_M := (yX6_addArc, cX6_addArc, 4, (some FieldType.boolean))
abbrev mX6_dropFrameIn : hx_M := (yX6_dropFrameIn, cX6_dropFrameIn, 3, (none : Option FieldType))
abbrev mX6_frameIn : hx_M := (yX6_frameIn, cX6_frameIn, 4, (some (FieldType.object "TokenHouse$Frame")))
abbrev mX6_hasPort : hx_M := (yX6_hasPort, cX6_hasPort, 2, (some FieldType.boolean))
abbrev mX6_hasSide : hx_M := (yX6_hasSide, cX6_hasSide, 2, (some FieldType.boolean))
abbrev mX6_init : hx_M := (yX6_init, cX6_init, 7, (none : Option FieldType))
abbrev mX7_init : hx_M := (yX7_init, cX7_init, 3, (none : Option FieldType))
abbrev mX8_init : hx_M := (yX8_init, cX8_init, 4, (none : Option FieldType))
abbrev mX9_arc : hx_M := (yX9_arc, cX9_arc, 7, (some FieldType.boolean))
abbrev mX9_cell : hx_M := (yX9_cell, cX9_cell, 5, (some FieldType.long))
abbrev mX9_choose : hx_M := (yX9_choose, cX9_choose, 6, (none : Option FieldType))
abbrev mX9_clear : hx_M := (yX9_clear, cX9_clear, 3, (none : Option FieldType))
abbrev mX9_come : hx_M := (yX9_come, cX9_come, 6, (none : Option FieldType))
abbrev mX9_context : hx_M := (yX9_context, cX9_context, 3, (some FieldType.int))
abbrev mX9_contextBehind : hx_M := (yX9_contextBehind, cX9_contextBehind, 3, (some FieldType.int))
abbrev mX9_enterCall : hx_M := (yX9_enterCall, cX9_enterCall, 6, (none : Option FieldType))
abbrev mX9_errorOf : hx_M := (yX9_errorOf, cX9_errorOf, 2, (some FieldType.int))
abbrev mX9_fetch : hx_M := (yX9_fetch, cX9_fetch, 4, (none : Option FieldType))
abbrev mX9_give : hx_M := (yX9_give, cX9_give, 6, (none : Option FieldType))
abbrev mX9_giveOnSide : hx_M := (yX9_giveOnSide, cX9_giveOnSide, 7, (none : Option FieldType))
abbrev mX9_go : hx_M := (yX9_go, cX9_go, 8, (none : Option FieldType))
abbrev mX9_init : hx_M := (yX9_init, cX9_init, 1, (none : Option FieldType))
abbrev mX9_leaveCall : hx_M := (yX9_leaveCall, cX9_leaveCall, 4, (none : Option FieldType))
abbrev mX9_makeArray : hx_M := (yX9_makeArray, cX9_makeArray, 6, (none : Option FieldType))
abbrev mX9_move : hx_M := (yX9_move, cX9_move, 5, (none : Option FieldType))
abbrev mX9_node : hx_M := (yX9_node, cX9_node, 4, (some FieldType.int))
abbrev mX9_nodeAt : hx_M := (yX9_nodeAt, cX9_nodeAt, 2, (some (FieldType.object "TokenHouse$Node")))
abbrev mX9_quotient : hx_M := (yX9_quotient, cX9_quotient, 4, (some (FieldType.object "TokenHouse$Value")))
abbrev mX9_ready : hx_M := (yX9_ready, cX9_ready, 4, (some FieldType.int))
abbrev mX9_reckoned : hx_M := (yX9_reckoned, cX9_reckoned, 3, (some (FieldType.object "TokenHouse$Value")))
abbrev mX9_result : hx_M := (yX9_result, cX9_result, 4, (some FieldType.long))
abbrev mX9_run : hx_M := (yX9_run, cX9_run, 9, (some FieldType.int))
abbrev mX9_store : hx_M := (yX9_store, cX9_store, 9, (none : Option FieldType))
abbrev mX9_token : hx_M := (yX9_token, cX9_token, 6, (some FieldType.boolean))
abbrev mX9_total : hx_M := (yX9_total, cX9_total, 2, (some FieldType.int))
abbrev mX9_waiting : hx_M := (yX9_waiting, cX9_waiting, 5, (some FieldType.int))
end
section
/-! LISTS: opened for ArrayList's own code, closed for all others -/
section LS
variable {G : hx_G} {M M1 M2 : hx_S} {H : Heap}
theorem arrV_congr (cA : ClassId) (n : Nat) {f g : Nat → Value} (h : ∀ j, j < n → f j = g j) : arrV cA n f = arrV cA n g := by
  unfold arrV
  congr 1
  apply Array.ext
  · simp
  · intro i h1 h2
    simp at h1 ⊢
    exact h i h1
/-- one heap of the machine, another look at it: each claim of the new look stands on claims of the old -/
theorem Sh.view (h : Sh G M1 H) (hw : Wf M2) (hz : Sz M2 = Sz M1)
    (ho : ∀ ci b fs, So M2 ci b = some fs → So M1 ci b = some fs ∨ (ci = 0 ∧ ∃ x, Sq M1 b = some x ∧ fs = qobj G x))
    (hi : ∀ b x, Si M2 b = some x → Si M1 b = some x) (hj : ∀ b x, Sj M2 b = some x → Sj M1 b = some x)
    (hr : ∀ k b y, Sr M2 k b = some y → Sr M1 k b = some y ∨ (k = 2 ∧ ∃ a x, Sq M1 a = some x ∧ 0 < x.2.1 ∧ b = x.2.2.1 ∧ y = (x.2.1, fun j => x.1[j]?)))
    (hq : ∀ b x, Sq M2 b = some x → Sq M1 b = some x ∨ (So M1 0 b = some (qobj G x) ∧ (0 < x.2.1 → ∃ f, Sr M1 2 x.2.2.1 = some (x.2.1, f) ∧ ∀ j, j < x.2.1 → f j = x.1[j]?))) : Sh G M2 H := by
  obtain ⟨a1, a2, a3, a4, a5, a6⟩ := h
  obtain ⟨w2, w3, w4, w5, w6⟩ := hw
  refine ⟨a1.trans hz.symm, fun ci b fs hb => ?_, fun b x hb => ?_, fun b x hb => ?_, fun k b x hb => ?_, fun b x hb => ?_⟩
  · obtain ⟨q1, q2, q3⟩ := w2 ci b fs hb
    rcases ho ci b fs hb with z | ⟨rfl, x, z1, rfl⟩
    · obtain ⟨-, -, z3, z4⟩ := a2 ci b fs z
      exact ⟨q1, q2, z3, z4⟩
    · obtain ⟨-, z3, z4, -⟩ := a6 b x z1
      exact ⟨q1, q2, z3, z4.1⟩
  · obtain ⟨-, z⟩ := a3 b x (hi b x hb)
    exact ⟨(w3 b x hb).1, z⟩
  · obtain ⟨-, z⟩ := a4 b x (hj b x hb)
    exact ⟨(w4 b x hb).1, z⟩
  · obtain ⟨q1, q2, q3⟩ := w5 k b x hb
    rcases hr k b x hb with z | ⟨rfl, a, y, z1, z2, rfl, rfl⟩
    · obtain ⟨-, -, z3, z4⟩ := a5 k b x z
      exact ⟨q1, q2, z3, z4⟩
    · obtain ⟨-, -, z4, z5⟩ := a6 a y z1
      exact ⟨q1, q2, (z5 z2).2, z4.2.2 z2⟩
  · obtain ⟨q1, q2, q3, q4⟩ := w6 b x hb
    rcases hq b x hb with z | ⟨z1, z2⟩
    · obtain ⟨-, z3, z4, z5⟩ := a6 b x z
      exact ⟨q1, z3, z4, fun e => ⟨(q4 e).1, (z5 e).2⟩⟩
    · obtain ⟨-, -, z3, z4⟩ := a2 0 b _ z1
      refine ⟨q1, z3, ⟨z4, q3, fun z => ?_⟩, fun z => ⟨(q4 z).1, ?_⟩⟩
      · obtain ⟨f, e2, e3⟩ := z2 z
        obtain ⟨-, -, z6, z7⟩ := a5 2 _ _ e2
        show H[x.2.2.1]? = _
        rw [z7]
        exact congrArg some (arrV_congr _ _ fun j hj => by show va_rf (f j) = va_rf (x.1[j]?); rw [e3 j hj])
      · obtain ⟨f, e2, e3⟩ := z2 z
        exact (a5 2 _ _ e2).2.2.1
theorem hx_ext (h1 : Sz M = Sz M1) (h2 : Sl M = Sl M1) (h3 : ∀ b, Sk M b = Sk M1 b) (h4 : ∀ c b, So M c b = So M1 c b) (h5 : ∀ b, Si M b = Si M1 b) (h6 : ∀ b, Sj M b = Sj M1 b) (h7 : ∀ c b, Sr M c b = Sr M1 c b) (h8 : ∀ b, Sq M b = Sq M1 b) : M = M1 := by
  obtain ⟨a1, a2, a3, a4, a5, a6, a7, a8⟩ := M
  obtain ⟨b1, b2, b3, b4, b5, b6, b7, b8⟩ := M1
  have e1 : a1 = b1 := h1
  have e2 : a2 = b2 := h2
  have e3 : a3 = b3 := funext h3
  have e4 : a4 = b4 := funext fun c => funext (h4 c)
  have e5 : a5 = b5 := funext h5
  have e6 : a6 = b6 := funext h6
  have e7 : a7 = b7 := funext fun c => funext (h7 c)
  have e8 : a8 = b8 := funext h8
  subst e1 e2 e3 e4 e5 e6 e7 e8
  rfl
/-- a list opened: its object and, if it has one, its data array stand for themselves -/
def qraw (G : hx_G) (M : hx_S) (a : Nat) (x : List Nat × Nat × Nat × Int32) : hx_S :=
  if x.2.1 = 0 then oput (kput (qput M a none) a 0) 0 a (some (qobj G x))
  else rput (kput (oput (kput (qput M a none) a 0) 0 a (some (qobj G x))) x.2.2.1 24) 2 x.2.2.1 (some (x.2.1, fun j => x.1[j]?))
variable {a : Nat} {x : List Nat × Nat × Nat × Int32}
theorem Sz_qraw : Sz (qraw G M a x) = Sz M := by unfold qraw; split <;> rfl
theorem Sl_qraw : Sl (qraw G M a x) = Sl M := by unfold qraw; split <;> rfl
theorem Si_qraw (b : Nat) : Si (qraw G M a x) b = Si M b := by unfold qraw; split <;> rfl
theorem Sj_qraw (b : Nat) : Sj (qraw G M a x) b = Sj M b := by unfold qraw; split <;> rfl
theorem Sq_qraw (b : Nat) : Sq (qraw G M a x) b = if b = a then none else Sq M b := by unfold qraw; split <;> rfl
theorem So_qraw (c b : Nat) : So (qraw G M a x) c b = if c = 0 ∧ b = a then some (qobj G x) else So M c b := by unfold qraw; split <;> rfl
theorem Sr_qraw (c b : Nat) : Sr (qraw G M a x) c b = if 0 < x.2.1 ∧ c = 2 ∧ b = x.2.2.1 then some (x.2.1, fun j => x.1[j]?) else Sr M c b := by
  unfold qraw
  by_cases h : x.2.1 = 0
  · rw [if_pos h, if_neg (by omega)]; rfl
  · rw [if_neg h, Sr_rput]
    by_cases h2 : c = 2 ∧ b = x.2.2.1
    · rw [if_pos h2, if_pos ⟨by omega, h2⟩]
    · rw [if_neg h2, if_neg (fun z => h2 z.2)]; rfl
theorem Sk_qraw (b : Nat) : Sk (qraw G M a x) b = if 0 < x.2.1 ∧ b = x.2.2.1 then 24 else if b = a then 0 else Sk M b := by
  unfold qraw
  by_cases h : x.2.1 = 0
  · rw [if_pos h, if_neg (by omega)]; rfl
  · rw [if_neg h, Sk_rput, Sk_kput]
    by_cases h2 : b = x.2.2.1
    · rw [if_pos h2, if_pos ⟨by omega, h2⟩]
    · rw [if_neg h2, if_neg (fun z => h2 z.2)]; rfl
theorem wf_qraw (h : Wf M) (hx : Sq M a = some x) : Wf (qraw G M a x) := by
  obtain ⟨w2, w3, w4, w5, w6⟩ := h
  obtain ⟨k1, k2, k3, k4⟩ := w6 a x hx
  have hk : ∀ b, Sk M b ≠ 50 → Sk M b ≠ 100 + a → Sk (qraw G M a x) b = Sk M b := by
    intro b h1 h2
    rw [Sk_qraw]
    rw [if_neg (fun z => h2 (by rw [z.2]; exact (k4 z.1).1)), if_neg (fun z => h1 (by rw [z]; exact k1))]
  have hkx : Sk (qraw G M a x) a = 0 := by
    rw [Sk_qraw, if_neg (fun z => ?_), if_pos rfl]
    have := (k4 z.1).1
    rw [← z.2, k1] at this
    omega
  refine ⟨fun c b fs hb => ?_, fun b y hb => ?_, fun b y hb => ?_, fun c b y hb => ?_, fun b y hb => ?_⟩
  · rw [So_qraw] at hb
    rw [Sz_qraw]
    by_cases hc : c = 0 ∧ b = a
    · obtain ⟨rfl, rfl⟩ := hc
      exact ⟨hkx, by omega, k2⟩
    · rw [if_neg hc] at hb
      obtain ⟨q1, q2, q3⟩ := w2 c b fs hb
      exact ⟨(hk b (by omega) (by omega)).trans q1, q2, q3⟩
  · rw [Si_qraw] at hb
    obtain ⟨q1, q2⟩ := w3 b y hb
    rw [Sz_qraw]
    exact ⟨(hk b (by omega) (by omega)).trans q1, q2⟩
  · rw [Sj_qraw] at hb
    obtain ⟨q1, q2⟩ := w4 b y hb
    rw [Sz_qraw]
    exact ⟨(hk b (by omega) (by omega)).trans q1, q2⟩
  · rw [Sr_qraw] at hb
    rw [Sz_qraw]
    by_cases hc : 0 < x.2.1 ∧ c = 2 ∧ b = x.2.2.1
    · obtain ⟨z1, rfl, rfl⟩ := hc
      refine ⟨?_, by omega, (k4 z1).2⟩
      rw [Sk_qraw, if_pos ⟨z1, rfl⟩]
    · rw [if_neg hc] at hb
      obtain ⟨q1, q2, q3⟩ := w5 c b y hb
      exact ⟨(hk b (by omega) (by omega)).trans q1, q2, q3⟩
  · rw [Sq_qraw] at hb
    rw [Sz_qraw]
    by_cases hc : b = a
    · rw [if_pos hc] at hb; cases hb
    · rw [if_neg hc] at hb
      obtain ⟨q1, q2, q3, q4⟩ := w6 b y hb
      have e1 : Sk (qraw G M a x) b = 50 := by
        rw [Sk_qraw, if_neg (fun z => ?_), if_neg hc, q1]
        have := (k4 z.1).1
        rw [← z.2, q1] at this
        omega
      refine ⟨e1, q2, q3, fun z => ⟨?_, (q4 z).2⟩⟩
      rw [hk _ (by rw [(q4 z).1]; omega) (by rw [(q4 z).1]; omega)]
      exact (q4 z).1
theorem sh_qraw (hw : Wf M) (hx : Sq M a = some x) (h : Sh G M H) : Sh G (qraw G M a x) H := by
  refine Sh.view h (wf_qraw hw hx) Sz_qraw (fun c b fs hb => ?_) (fun b y hb => by rw [Si_qraw] at hb; exact hb) (fun b y hb => by rw [Sj_qraw] at hb; exact hb) (fun c b y hb => ?_) (fun b y hb => ?_)
  · rw [So_qraw] at hb
    by_cases hc : c = 0 ∧ b = a
    · rw [if_pos hc] at hb
      cases hb
      exact Or.inr ⟨hc.1, x, by rw [hc.2]; exact hx, rfl⟩
    · rw [if_neg hc] at hb
      exact Or.inl hb
  · rw [Sr_qraw] at hb
    by_cases hc : 0 < x.2.1 ∧ c = 2 ∧ b = x.2.2.1
    · rw [if_pos hc] at hb
      cases hb
      exact Or.inr ⟨hc.2.1, a, x, hx, hc.1, hc.2.2, rfl⟩
    · rw [if_neg hc] at hb
      exact Or.inl hb
  · rw [Sq_qraw] at hb
    by_cases hc : b = a
    · rw [if_pos hc] at hb; cases hb
    · rw [if_neg hc] at hb
      exact Or.inl hb
/-- a list closed again -/
theorem sh_unraw (hw : Wf M) (hx : Sq M a = some x) (h : Sh G (qraw G M a x) H) : Sh G M H := by
  obtain ⟨w2, w3, w4, w5, w6⟩ := id hw
  obtain ⟨k1, k2, k3, k4⟩ := w6 a x hx
  refine Sh.view h hw Sz_qraw.symm (fun c b fs hb => ?_) (fun b y hb => by rw [Si_qraw]; exact hb) (fun b y hb => by rw [Sj_qraw]; exact hb) (fun c b y hb => ?_) (fun b y hb => ?_)
  · refine Or.inl ?_
    rw [So_qraw, if_neg (fun z => ?_)]
    · exact hb
    · have := (w2 c b fs hb).1
      rw [z.2, k1] at this
      have := (w2 c b fs hb).2.1
      omega
  · refine Or.inl ?_
    rw [Sr_qraw, if_neg (fun z => ?_)]
    · exact hb
    · have e1 := (w5 c b y hb).1
      have e2 := (w5 c b y hb).2.1
      rw [z.2.2, (k4 z.1).1] at e1
      omega
  · by_cases hc : b = a
    · subst hc
      cases hx.symm.trans hb
      refine Or.inr ⟨by rw [So_qraw, if_pos ⟨rfl, rfl⟩], fun z => ⟨_, by rw [Sr_qraw, if_pos ⟨z, rfl, rfl⟩], fun _ _ => rfl⟩⟩
    · refine Or.inl ?_
      rw [Sq_qraw, if_neg hc]
      exact hb
end LS
section LB
variable {G : hx_G} {d lo : Nat} {q : hx_M} {As : List Value} {M0 M : hx_S} {P : Option Value → hx_S → Prop} {pc pc2 : Nat} {L : List (Nat × Value)} {st : List Value}
theorem xw_pc (h : pc = pc2) (k : XW G d lo q As M0 P M pc2 L st) : XW G d lo q As M0 P M pc L st := h ▸ k
theorem tw_sf : Cond.sameField "java/util/ArrayList" "java/util/AbstractList" "modCount" "I" ∈ TW := tw_in 108 (by decide +kernel) (by decide +kernel)
theorem xw_open {a : Nat} {x : List Nat × Nat × Nat × Int32} (hx : Sq M a = some x) (k : XW G d lo q As M0 P (qraw G M a x) pc L st) : XW G d lo q As M0 P M pc L st :=
  xw_wf fun hw => xw_view (fun _ => wf_qraw hw hx) Sz_qraw Sl_qraw (fun H h => sh_qraw hw hx h) k
theorem xw_shut {a : Nat} {x : List Nat × Nat × Nat × Int32} (hw : Wf M) (hx : Sq M a = some x) (k : XW G d lo q As M0 P M pc L st) : XW G d lo q As M0 P (qraw G M a x) pc L st :=
  xw_view (fun _ => hw) Sz_qraw.symm Sl_qraw.symm (fun H h => sh_unraw hw hx h) k
theorem So_qself {a : Nat} {x : List Nat × Nat × Nat × Int32} : So (qraw G M a x) 0 a = some (qobj G x) := by rw [So_qraw, if_pos ⟨rfl, rfl⟩]
theorem Sr_qself {a : Nat} {x : List Nat × Nat × Nat × Int32} (h : 0 < x.2.1) : Sr (qraw G M a x) 2 x.2.2.1 = some (x.2.1, fun j => x.1[j]?) := by rw [Sr_qraw, if_pos ⟨h, rfl, rfl⟩]
/-- where a list stands there stands an object of ArrayList -/
theorem q_at {a : Nat} {x : List Nat × Nat × Nat × Int32} (hx : Sq M a = some x) : ∀ H : Heap, Sh G M H → ∃ ws, va_at (gD G) vwCl (a, .inr (0, ws)) H := fun H h => ⟨_, (h.2.2.2.2.2 a x hx).2.2.1.1⟩
theorem o_at {ci a : Nat} {fs : List Value} (hx : So M ci a = some fs) : ∀ H : Heap, Sh G M H → ∃ ws, va_at (gD G) vwCl (a, .inr (ci, ws)) H := fun H h => ⟨_, (h.2.1 ci a fs hx).2.2.2⟩
end LB
end
section
/-! rows that only ArrayList's own code needs -/
/-! the last of two at one place stands -/
theorem rput_rput (M : hx_S) (k a : Nat) (x y : Option (Nat × (Nat → Option Nat))) : rput (rput M k a x) k a y = rput M k a y := by
  refine hx_ext (Sz_rput _ _ _ _) (Sl_rput _ _ _ _) (fun b => Sk_rput _ _ _ _ b) (fun c b => So_rput _ _ _ _ c b) (fun b => Si_rput _ _ _ _ b) (fun b => Sj_rput _ _ _ _ b) (fun c b => ?_) (fun b => Sq_rput _ _ _ _ b)
  rw [Sr_rput, Sr_rput, Sr_rput]
  by_cases hz : c = k ∧ b = a
  · rw [if_pos hz, if_pos hz]
  · rw [if_neg hz, if_neg hz, if_neg hz]
theorem oput_oput (M : hx_S) (k a : Nat) (x y : Option (List Value)) : oput (oput M k a x) k a y = oput M k a y := by
  refine hx_ext (Sz_oput _ _ _ _) (Sl_oput _ _ _ _) (fun b => Sk_oput _ _ _ _ b) (fun c b => ?_) (fun b => Si_oput _ _ _ _ b) (fun b => Sj_oput _ _ _ _ b) (fun c b => Sr_oput _ _ _ _ c b) (fun b => Sq_oput _ _ _ _ b)
  rw [So_oput, So_oput, So_oput]
  by_cases hz : c = k ∧ b = a
  · rw [if_pos hz, if_pos hz]
  · rw [if_neg hz, if_neg hz, if_neg hz]
theorem qput_qput (M : hx_S) (a : Nat) (x y : Option (List Nat × Nat × Nat × Int32)) : qput (qput M a x) a y = qput M a y := by
  refine hx_ext (Sz_qput _ _ _) (Sl_qput _ _ _) (fun b => Sk_qput _ _ _ b) (fun c b => So_qput _ _ _ c b) (fun b => Si_qput _ _ _ b) (fun b => Sj_qput _ _ _ b) (fun c b => Sr_qput _ _ _ c b) (fun b => ?_)
  rw [Sq_qput, Sq_qput, Sq_qput]
  by_cases hz : b = a
  · rw [if_pos hz, if_pos hz]
  · rw [if_neg hz, if_neg hz, if_neg hz]
theorem iput_iput (M : hx_S) (a : Nat) (x y : Option (Nat × (Nat → Int32))) : iput (iput M a x) a y = iput M a y := by
  refine hx_ext (Sz_iput _ _ _) (Sl_iput _ _ _) (fun b => Sk_iput _ _ _ b) (fun c b => So_iput _ _ _ c b) (fun b => ?_) (fun b => Sj_iput _ _ _ b) (fun c b => Sr_iput _ _ _ c b) (fun b => Sq_iput _ _ _ b)
  rw [Si_iput, Si_iput, Si_iput]
  by_cases hz : b = a
  · rw [if_pos hz, if_pos hz]
  · rw [if_neg hz, if_neg hz, if_neg hz]
theorem jput_jput (M : hx_S) (a : Nat) (x y : Option (Nat × (Nat → Int64))) : jput (jput M a x) a y = jput M a y := by
  refine hx_ext (Sz_jput _ _ _) (Sl_jput _ _ _) (fun b => Sk_jput _ _ _ b) (fun c b => So_jput _ _ _ c b) (fun b => Si_jput _ _ _ b) (fun b => ?_) (fun c b => Sr_jput _ _ _ c b) (fun b => Sq_jput _ _ _ b)
  rw [Sj_jput, Sj_jput, Sj_jput]
  by_cases hz : b = a
  · rw [if_pos hz, if_pos hz]
  · rw [if_neg hz, if_neg hz, if_neg hz]
theorem oput_rput (M : hx_S) (c b k a : Nat) (x : Option (List Value)) (y : Option (Nat × (Nat → Option Nat))) : oput (rput M k a y) c b x = rput (oput M c b x) k a y := rfl
section JR
variable {G : hx_G} {d lo : Nat} {q : hx_M} {As : List Value} {M0 M M2 : hx_S} {P : Option Value → hx_S → Prop} {pc pc2 : Nat} {L L2 : List (Nat × Value)} {st st2 : List Value}
theorem ct_go (hy : plainName q.1.cls = true) (hn : (lg_sl As).length ≤ q.2.2.1) (hL : lv_args 0 As = L) (h : XW G d lo q As M P M 0 L []) : CT G d lo q As M P := ct_of hy hn (hL ▸ h)
theorem xw_ishr {x y : Int32} (hd : decode q.2.1 pc = .ok (.ishr, 1)) (k : XW G d lo q As M0 P M (pc + 1) L (.int (x >>> (y &&& 31)) :: st)) : XW G d lo q As M0 P M pc L (.int y :: .int x :: st) :=
  xw_s (fun p e R s m below meth c Q k n H locs ls hx hb hl kk => lv_ishr hx hb hd (kk ls hl)) k
/-- the empty array that ArrayList's static holds -/
theorem ks_E {s : State} (h : KS G s) : va_Z RJx4a65c "DEFAULTCAPACITY_EMPTY_ELEMENTDATA" "[Ljava/lang/Object;" (.ref (gE G)) (gA G) s s.heap ∧ va_T (.object "java/lang/Object") (gE G) 0 (fun _ => .null) (gA G) s s.heap := h.2.2.2.2.2.1
theorem xw_getE {index : Nat} (hw : Cond.fieldLink q.1.cls index RJx4a65c "DEFAULTCAPACITY_EMPTY_ELEMENTDATA" "[Ljava/lang/Object;" ∈ TW) (hd : decode q.2.1 pc = .ok (.getstatic index, 3)) (kk : XW G d lo q As M0 P M (pc + 3) L (.ref (gE G) :: st)) : XW G d lo q As M0 P M pc L st :=
  xw_g (fun p e R s m below meth c Q k' n' C0 hR1 hR2 H locs ls hS hV hl kk => va_gets C0.hx C0.hb (ks_E C0.hks).1 hV C0.hown (C0.hts _ hw) (fun x hx => hx) hd (kk ls hl)) kk
theorem xw_lenE (hd : decode q.2.1 pc = .ok (.arraylength, 1)) (kk : XW G d lo q As M0 P M (pc + 1) L (.int 0 :: st)) : XW G d lo q As M0 P M pc L (.ref (gE G) :: st) :=
  xw_g (fun p e R s m below meth c Q k' n' C0 hR1 hR2 H locs ls hS hV hl kk => va_tlen C0.hx C0.hb (ks_E C0.hks).2 hV rfl hd (kk ls hl)) kk
/-- the class object of Object[], as a constant and by getClass -/
theorem xw_ldcM {index : Nat} (hw : Cond.classLink q.1.cls index "[Ljava/lang/Object;" ∈ TW) (hd : decode q.2.1 pc = .ok (.ldc index, 2)) (kk : XW G d lo q As M0 P M (pc + 2) L (.ref (gM G) :: st)) : XW G d lo q As M0 P M pc L st :=
  xw_g (fun p e R s m below meth c Q k' n' C0 hR1 hR2 H locs ls hS hV hl kk => va_ldcM C0.hx C0.hb C0.hown (C0.hts _ hw) C0.hks.2.2.2.2.1.1 hd (kk ls hl)) kk
theorem tw_nat : Cond.native ⟨"java/lang/Object", "getClass", "()Ljava/lang/Class;"⟩ ∈ TW := tw_in 326 (by decide +kernel) (by decide +kernel)
theorem tw_ntc : Cond.native arraycopyName ∈ TW := tw_in 338 (by decide +kernel) (by decide +kernel)
theorem xw_getC {a n index : Nat} {f : Nat → Option Nat} (hd : decode q.2.1 pc = .ok (.invokevirtual index, 3)) (h : Sr M 2 a = some (n, f)) (hw : Cond.methodLink q.1.cls index ⟨"java/lang/Object", "getClass", "()Ljava/lang/Class;"⟩ ∈ TW) (hw2 : Cond.selects "[Ljava/lang/Object;" ⟨"java/lang/Object", "getClass", "()Ljava/lang/Class;"⟩ ⟨"java/lang/Object", "getClass", "()Ljava/lang/Class;"⟩ ∈ TW) (hw3 : Cond.instanceMethod ⟨"java/lang/Object", "getClass", "()Ljava/lang/Class;"⟩ ∈ TW)
    (hf : 1 ≤ d) (hlo : (st.map fun v => v.category).sum + 14 ≤ lo) (kk : XW G d lo q As M0 P M (pc + 3) L (.ref (gM G) :: st)) : XW G d lo q As M0 P M pc L (.ref a :: st) :=
  xw_g (fun p e R s m below meth c Q k' n' C0 hR1 hR2 H locs ls hS hV hl kk => by
    obtain ⟨_, h3, _, hc⟩ := hS.2.2.2.2.1 2 a _ h
    have hnm : s.vm.findClass "[Ljava/lang/Object;" = some (gR G 2) := va_nmO (gT_r C0.hK h3).2 (by decide +kernel)
    exact va_getC C0.hx C0.hb (by rw [C0.hml]; exact hl.1.symm) C0.hown (C0.hts _ hw) (va_Dc.use C0.hks.2.2.2.2.1.2) (C0.hts _ hw2) (C0.hts _ hw3) (C0.hts _ tw_nat) C0.hks.2.2.2.2.1.1 ⟨_, hc, rfl, hnm⟩ (by rw [← hR1]; exact hf) (by rw [← hR2]; exact hlo) hd (kk ls hl)) kk
theorem nfw_copy : nativeFrameWords "java/lang/System" "arraycopy" 5 = 7 := by decide
/-- System.arraycopy of references whose class fits Object -/
theorem xw_copy {a0 a n0 n1 ci N index : Nat} {f g : Nat → Option Nat} {sp dp n : Int32} {C : String} {T0 : u_T} (hd : decode q.2.1 pc = .ok (.invokestatic index, 3)) (hs0 : Sr M 2 a0 = some (n0, f)) (hs1 : Sr M 2 a = some (n1, g)) (h1 : ¬ sp < 0) (h2 : ¬ dp < 0) (h3 : ¬ n < 0) (h4 : sp.toNatClampNeg + n.toNatClampNeg ≤ n0) (h5 : dp.toNatClampNeg + n.toNatClampNeg ≤ n1)
    (hc0 : vwCl[ci]? = some (C, T0, N)) (hcast : ∀ s : State, KS G s → va_Nw (.castable C "java/lang/Object") s) (hel : ∀ i : Nat, i < n.toNatClampNeg → ∀ y : Nat, f (sp.toNatClampNeg + i) = some y → ∃ vs, So M ci y = some vs)
    (hw : Cond.methodLink q.1.cls index arraycopyName ∈ TW) (hw2 : Cond.static arraycopyName ∈ TW) (hw3 : Cond.initialized "java/lang/System" ∈ TW) (hf : 1 ≤ d) (hlo : (st.map fun v => v.category).sum + 18 ≤ lo)
    (kk : XW G d lo q As M0 P (rput M 2 a (some (n1, va_cpy f g sp.toNatClampNeg dp.toNatClampNeg n.toNatClampNeg))) (pc + 3) L st) : XW G d lo q As M0 P M pc L (.int n :: .int dp :: .ref a :: .int sp :: .ref a0 :: st) := by
  refine xw_h (M2 := rput M 2 a (some (n1, va_cpy f g sp.toNatClampNeg dp.toNatClampNeg n.toNatClampNeg))) (fun hwf => Wf.rset hwf hs1) 0 0 rfl rfl (fun p e R s m below meth c Q k' n' C0 hR1 hR2 hz hs H locs ls hS hV hl kk => ?_) kk
  have nn : ∀ z : Int32, ¬ z < 0 → z.toInt = (z.toNatClampNeg : Int) := by
    intro z hz
    have hz0 : (0 : Int) ≤ z.toInt := by
      have := Int32.not_lt.mp hz
      simpa using Int32.le_iff_toInt_le.mp this
    show z.toInt = ((z.toInt.toNat : Nat) : Int)
    omega
  intro T hT X
  obtain ⟨-, -, -, hc0'⟩ := hS.2.2.2.2.1 2 a0 _ hs0
  obtain ⟨-, hk3, hA1, hc1'⟩ := hS.2.2.2.2.1 2 a _ hs1
  have hK := C0.hK
  obtain ⟨-, k0, hk0, cm0, hkk0⟩ := (gT_r hK hk3).1 n0 (fun j => va_rf (f j))
  obtain ⟨-, k1, hk1, cm1, hkk1⟩ := (gT_r hK hk3).1 n1 (fun j => va_rf (g j))
  obtain ⟨vm', X', step⟩ := X.arraycopy C0.hx C0.hown (C0.hts _ hw) (C0.hts _ tw_ntc) (C0.hts _ hw2) (C0.hts _ hw3) (src := a0) (dst := a) (srcPos := sp) (destPos := dp) (n := n) (by rw [hT]; exact hc0') (by rw [hT]; exact hc1')
    (fun _ h => by cases h) (fun _ h => by cases h) (fun h => by cases h) (fun h => by cases h) hk0 hk1 hkk0 hkk1 rfl h1 h2 h3
    (by rw [nn sp h1, nn n h3, arrV_size]; show ¬ _ > ((n0 : Nat) : Int); omega)
    (by rw [nn dp h2, nn n h3, arrV_size]; show ¬ _ > ((n1 : Nat) : Int); omega)
    (fun vm₁ hal i hi => by
      rw [Array.getD_eq_getD_getElem?, arrV_read _ _ (show sp.toNatClampNeg + i < n0 by omega)]
      show fits _ (va_rf (f (sp.toNatClampNeg + i))) = true ∧ State.takes _ _ (va_rf (f (sp.toNatClampNeg + i)))
      cases hy : f (sp.toNatClampNeg + i) with
      | none => exact ⟨rfl, trivial⟩
      | some y =>
        obtain ⟨vs, hso⟩ := hel i hi y hy
        obtain ⟨cellV, g1, g2, g3⟩ := va_recv hK (va_P1 (hS.2.1 ci y vs hso).2.2.2) hc0 (q0 := 0) rfl
        obtain ⟨kA, comp, r1, r2, r3, -⟩ := (gT_r hK hk3).2
        cases hk1.symm.trans r1
        cases hkk1.symm.trans r2
        obtain ⟨kC, hkC, -⟩ := Vm.findClass_spec g3
        obtain ⟨kE, hkE, -⟩ := Vm.findClass_spec r3
        obtain ⟨kC', hkC', -⟩ := hal.2.2 _ _ hkC
        obtain ⟨kE', hkE', -⟩ := hal.2.2 _ _ hkE
        refine ⟨rfl, cellV, (show T.heap[y]? = some cellV by rw [hT]; exact g1), (fun q h => by rw [h] at g2; cases g2), ⟨kC', hkC'⟩, ?_, ?_⟩
        · exact ⟨kE', hkE'⟩
        · show vm₁.assignable _ _ = true
          rw [hal.assignable]
          exact fit_cast hcast s C0.hks _ _ g3 r3)
    (g := F0 m pc ls (.int n :: .int dp :: .ref a :: .int sp :: .ref a0 :: st)) rfl (by rw [C0.hml]; exact hl.1) (rest := st) rfl (by rw [C0.hb]; exact hd) (by rw [← hR1]; exact hf) (by rw [← hR2, nfw_copy]; show 2 * 0 + _ + _ ≤ lo; omega)
  have e1 : copied (arrV (gR G 2) n0 (fun j => va_rf (f j))) (arrV (gR G 2) n1 (fun j => va_rf (g j))) sp dp n = arrV (gR G 2) n1 (fun j => va_rf (va_cpy f g sp.toNatClampNeg dp.toNatClampNeg n.toNatClampNeg j)) := va_copied (fun z => va_rf z) _ _ f g h4
  have X' := (show Stand _ _ _ _ _ _ _ _ _ _ ((T.setVm vm').setCell a (arrV (gR G 2) n1 (fun j => va_rf (va_cpy f g sp.toNatClampNeg dp.toNatClampNeg n.toNatClampNeg j)))) _ _ _ by rw [← e1]; exact X')
  have step' : ∀ target, Steps p.tables e below (((T.setVm vm').setCell a (arrV (gR G 2) n1 (fun j => va_rf (va_cpy f g sp.toNatClampNeg dp.toNatClampNeg n.toNatClampNeg j)))).setTop (F0 m (pc + 3) ls st)) target → Steps p.tables e below (T.setTop (F0 m pc ls (.int n :: .int dp :: .ref a :: .int sp :: .ref a0 :: st))) target := by
    rw [← e1]
    exact step
  have hl2 : a < H.size := hc_lt hc1'
  have hheap : ((T.setVm vm').setCell a (arrV (gR G 2) n1 (fun j => va_rf (va_cpy f g sp.toNatClampNeg dp.toNatClampNeg n.toNatClampNeg j)))).heap = H.setIfInBounds a (arrV (gR G 2) n1 (fun j => va_rf (va_cpy f g sp.toNatClampNeg dp.toNatClampNeg n.toNatClampNeg j))) := by rw [← hT]; rfl
  have oq : ∀ q : Nat, q ≠ a → (H.setIfInBounds a (arrV (gR G 2) n1 (fun j => va_rf (va_cpy f g sp.toNatClampNeg dp.toNatClampNeg n.toNatClampNeg j))))[q]? = H[q]? := fun q hq => by simp [Array.getElem?_setIfInBounds, Ne.symm hq]
  obtain ⟨t, a1, b1⟩ := kk _ _ ls (Sh.rset hS hs1 (by simp) oq (show (H.setIfInBounds a _)[a]? = some _ by simp [hl2])) ⟨by simp; exact hV.1, fun q g1 g2 => by
      rw [oq q (fun e => g2 (by rw [e]; exact hA1))]
      exact hV.2.1 q g1 g2, fun q hq => by
      rcases List.mem_append.mp hq with h | h
      · exact hV.2.2 q h
      · obtain ⟨z, -, hz⟩ := List.mem_map.mp h
        rw [← hz]
        exact hA1⟩ hl _ hheap X'
  exact ⟨t, step' t a1, b1⟩
end JR
end
section
/-! ARRAYLIST, what reads -/
section J1
variable {G : hx_G} {M : hx_S} {a i n : Nat} {x : List Nat × Nat × Nat × Int32}
theorem ct_chk3 (h : i < n) (hn : n < 2 ^ 31) : CT G 0 0 mJ3_checkIndex_8e157 [.int (nI i), .int (nI n), .null] M (fun r M1 => r = some (.int (nI i)) ∧ M1 = M) := by
  refine ct_go (by decide +kernel) (Nat.le_of_ble_eq_true rfl) (L := [(0, .int (nI i)), (1, .int (nI n)), (2, .null)]) rfl ?_
  refine xw_iload_n dJ3_checkIndex_8e157_0 rfl rfl ?_
  refine xw_if_lt (tgt := 9) dJ3_checkIndex_8e157_1 (by decide) (fun zz => absurd zz (nI_pos (by omega))) (fun _ => ?_)
  refine xw_iload_n dJ3_checkIndex_8e157_4 rfl rfl ?_
  refine xw_iload_n dJ3_checkIndex_8e157_5 rfl rfl ?_
  refine xw_icmp_lt (tgt := 16) dJ3_checkIndex_8e157_6 (by decide) (fun _ => ?_) (fun zz => absurd (nI_lt h hn) zz)
  refine xw_iload_n dJ3_checkIndex_8e157_16 rfl rfl ?_
  exact xw_iret rfl dJ3_checkIndex_8e157_17 ⟨rfl, rfl⟩
theorem ct_chk (h : i < n) (hn : n < 2 ^ 31) : CT G 1 22 mJ15_checkIndex_7cf53 [.int (nI i), .int (nI n)] M (fun r M1 => r = some (.int (nI i)) ∧ M1 = M) := by
  refine ct_go (by decide +kernel) (Nat.le_of_ble_eq_true rfl) (L := [(0, .int (nI i)), (1, .int (nI n))]) rfl ?_
  refine xw_iload_n dJ15_checkIndex_7cf53_0 rfl rfl ?_
  refine xw_iload_n dJ15_checkIndex_7cf53_1 rfl rfl ?_
  refine xw_null dJ15_checkIndex_7cf53_2 ?_
  refine xw_callS (q2 := mJ3_checkIndex_8e157) (n2 := 3) (Bs := [.int (nI i), .int (nI n), .null]) (rest := []) (ct_chk3 h hn) dJ15_checkIndex_7cf53_3 rfl tw_239 tw_240 tw_59 tw_241 (by decide +kernel) rfl (Nat.le_of_ble_eq_true rfl) (Nat.le_of_ble_eq_true rfl) (Nat.le_of_ble_eq_true rfl) (fun rr M1 hr hle1 => ?_)
  obtain ⟨rfl, hM1⟩ := hr
  obtain rfl := hM1.symm
  exact xw_iret rfl dJ15_checkIndex_7cf53_6 ⟨rfl, rfl⟩
theorem ct_size (hx : Sq M a = some x) : CT G 0 0 mJx4a65c_size_8abf5 [.ref a] M (fun r M1 => r = some (.int (nI x.1.length)) ∧ M1 = M) := by
  refine ct_wf fun hw => ct_go (by decide +kernel) (Nat.le_of_ble_eq_true rfl) (L := [(0, .ref a)]) rfl (xw_open hx ?_)
  refine xw_aload_n dJx4a65c_size_8abf5_0 rfl rfl ?_
  refine xw_get (ci := 0) (k := 2) (v := .int (nI x.1.length)) dJx4a65c_size_8abf5_1 So_qself rfl inJx4a65c (by decide) tw_105 (Or.inl rfl) rfl ?_
  refine xw_shut hw hx ?_
  exact xw_iret rfl dJx4a65c_size_8abf5_4 ⟨rfl, rfl⟩
theorem ct_isEmpty (hx : Sq M a = some x) (hn : x.1.length < 2 ^ 31) : CT G 0 0 mJx4a65c_isEmpty_aae02 [.ref a] M (fun r M1 => r = some (.int (if x.1 = [] then 1 else 0)) ∧ M1 = M) := by
  refine ct_wf fun hw => ct_go (by decide +kernel) (Nat.le_of_ble_eq_true rfl) (L := [(0, .ref a)]) rfl (xw_open hx ?_)
  refine xw_aload_n dJx4a65c_isEmpty_aae02_0 rfl rfl ?_
  refine xw_get (ci := 0) (k := 2) (v := .int (nI x.1.length)) dJx4a65c_isEmpty_aae02_1 So_qself rfl inJx4a65c (by decide) tw_105 (Or.inl rfl) rfl ?_
  refine xw_shut hw hx ?_
  refine xw_if_ne (tgt := 11) dJx4a65c_isEmpty_aae02_4 (by decide) (fun c1 => ?_) (fun c1 => ?_)
  · have hne : x.1 ≠ [] := fun z => c1 (by rw [z]; decide +kernel)
    refine xw_iconst (v := 0) dJx4a65c_isEmpty_aae02_11 (by decide) ?_
    exact xw_zret rfl (by rfl) dJx4a65c_isEmpty_aae02_12 ⟨by rw [if_neg hne], rfl⟩
  · have hne : x.1 = [] := by
      cases hl : x.1 with
      | nil => rfl
      | cons y ys =>
        rw [hl] at c1 hn
        exact absurd c1 (nI_ne0 (by simp) hn)
    refine xw_iconst (v := 1) dJx4a65c_isEmpty_aae02_7 (by decide) ?_
    refine xw_goto (tgt := 12) dJx4a65c_isEmpty_aae02_8 (by decide) ?_
    exact xw_zret rfl (by rfl) dJx4a65c_isEmpty_aae02_12 ⟨by rw [if_pos hne], rfl⟩
/-- elementData(i), of a list that is open -/
theorem ct_elem {e cap : Nat} {mc nn : Int32} {f : Nat → Option Nat} {v : Nat} (ho : So M 0 a = some [.int mc, .ref e, .int nn]) (hr : Sr M 2 e = some (cap, f)) (hi : i < cap) (hc : cap < 2 ^ 31) (hv : f i = some v) : CT G 0 0 mJx4a65c_elementData_915e3 [.ref a, .int (nI i)] M (fun r M1 => r = some (.ref v) ∧ M1 = M) := by
  refine ct_go (by decide +kernel) (Nat.le_of_ble_eq_true rfl) (L := [(0, .ref a), (1, .int (nI i))]) rfl ?_
  refine xw_aload_n dJx4a65c_elementData_915e3_0 rfl rfl ?_
  refine xw_pc (pc2 := 1) rfl ?_
  refine xw_get (ci := 0) (k := 1) (v := .ref e) dJx4a65c_elementData_915e3_1 ho rfl inJx4a65c (by decide) tw_104 (Or.inl rfl) rfl ?_
  refine xw_iload_n dJx4a65c_elementData_915e3_4 rfl rfl ?_
  refine xw_aald (v := .ref v) dJx4a65c_elementData_915e3_5 hr (vp_in_nI hi hc) (by rw [nI_clamp (by omega), hv]; rfl) ?_
  exact xw_aret rfl (Or.inl ⟨_, rfl⟩) (Or.inr ⟨_, rfl⟩) dJx4a65c_elementData_915e3_6 ⟨rfl, rfl⟩
theorem ct_get (hx : Sq M a = some x) (hi : i < x.1.length) (hc : x.2.1 < 2 ^ 31) : CT G 2 43 mJx4a65c_get_915e3 [.ref a, .int (nI i)] M (fun r M1 => r = some (.ref x.1[i]) ∧ M1 = M) := by
  refine ct_wf fun hw => ct_go (by decide +kernel) (Nat.le_of_ble_eq_true rfl) (L := [(0, .ref a), (1, .int (nI i))]) rfl (xw_open hx ?_)
  have hle : x.1.length ≤ x.2.1 := (hw.2.2.2.2 a x hx).2.2.1
  have hc0 : ¬ x.2.1 = 0 := by omega
  have ho : So (qraw G M a x) 0 a = some [.int x.2.2.2, .ref x.2.2.1, .int (nI x.1.length)] := by rw [So_qself, qobj, if_neg hc0]
  refine xw_iload_n dJx4a65c_get_915e3_0 rfl rfl ?_
  refine xw_aload_n dJx4a65c_get_915e3_1 rfl rfl ?_
  refine xw_get (ci := 0) (k := 2) (v := .int (nI x.1.length)) dJx4a65c_get_915e3_2 ho rfl inJx4a65c (by decide) tw_105 (Or.inl rfl) rfl ?_
  refine xw_callS (q2 := mJ15_checkIndex_7cf53) (n2 := 2) (Bs := [.int (nI i), .int (nI x.1.length)]) (rest := []) (ct_chk hi (by omega)) dJx4a65c_get_915e3_5 rfl tw_236 tw_237 tw_58 tw_238 (by decide +kernel) rfl (Nat.le_of_ble_eq_true rfl) (Nat.le_of_ble_eq_true rfl) (Nat.le_of_ble_eq_true rfl) (fun rr M1 hr hle1 => ?_)
  obtain ⟨rfl, rfl⟩ := hr
  refine xw_pop dJx4a65c_get_915e3_8 rfl ?_
  refine xw_aload_n dJx4a65c_get_915e3_9 rfl rfl ?_
  refine xw_iload_n dJx4a65c_get_915e3_10 rfl rfl ?_
  refine xw_callV (q2 := mJx4a65c_elementData_915e3) (n2 := 1) (ci := 0) (Bs := [.int (nI i)]) (rest := []) (ct_elem (v := x.1[i]) ho (Sr_qself (by omega)) (Nat.lt_of_lt_of_le hi hle) hc (List.getElem?_eq_getElem hi)) dJx4a65c_get_915e3_11 rfl (o_at ho) rfl rfl tw_242 tw_243 tw_244 tw_43 tw_245 (by decide +kernel) rfl (Nat.le_of_ble_eq_true rfl) (Nat.le_of_ble_eq_true rfl) (Nat.le_of_ble_eq_true rfl) (fun rr M1 hr hle1 => ?_)
  obtain ⟨rfl, rfl⟩ := hr
  refine xw_shut hw hx ?_
  exact xw_aret rfl (Or.inl ⟨_, rfl⟩) (Or.inr ⟨_, rfl⟩) dJx4a65c_get_915e3_14 ⟨rfl, rfl⟩
end J1
end
section
/-! ARRAYLIST, what changes it -/
section J2
variable {G : hx_G} {M Mw : hx_S} {H : Heap} {a : Nat} {x x2 : List Nat × Nat × Nat × Int32}
theorem wf_qset (h : Wf M) (hx : Sq M a = some x) (h1 : x2.1.length ≤ x2.2.1) (h2 : 0 < x2.2.1 → Sk M x2.2.2.1 = 100 + a ∧ x2.2.2.1 < Sz M) : Wf (qput M a (some x2)) := by
  obtain ⟨w2, w3, w4, w5, w6⟩ := h
  refine ⟨w2, w3, w4, w5, fun b y hb => ?_⟩
  rw [Sq_qput] at hb
  by_cases hc : b = a
  · subst hc
    rw [if_pos rfl] at hb
    cases hb
    exact ⟨(w6 b x hx).1, (w6 b x hx).2.1, h1, h2⟩
  · rw [if_neg hc] at hb
    exact w6 b y hb
theorem sh_qset (hw : Wf M) (hx : Sq M a = some x) (hz : Sz Mw = Sz M) (hso : ∀ c b, So Mw c b = if c = 0 ∧ b = a then some (qobj G x2) else So M c b) (hsi : ∀ b, Si Mw b = Si M b) (hsj : ∀ b, Sj Mw b = Sj M b) (hsr : ∀ c b y, Sr M c b = some y → Sr Mw c b = some y) (hsq : ∀ b, b ≠ a → Sq Mw b = Sq M b)
    (hdat : 0 < x2.2.1 → ∃ f, Sr Mw 2 x2.2.2.1 = some (x2.2.1, f) ∧ ∀ j, j < x2.2.1 → f j = x2.1[j]?) (hw2 : Wf (qput M a (some x2))) (h : Sh G Mw H) : Sh G (qput M a (some x2)) H := by
  have k1 := (hw.2.2.2.2 a x hx).1
  refine Sh.view h hw2 hz.symm (fun c b fs hb => Or.inl ?_) (fun b y hb => by rw [hsi]; exact hb) (fun b y hb => by rw [hsj]; exact hb) (fun c b y hb => Or.inl (hsr c b y hb)) (fun b y hb => ?_)
  · have hb' : So M c b = some fs := hb
    rw [hso, if_neg (fun z => ?_)]
    · exact hb'
    · have e1 := hw.1 c b fs hb'
      rw [z.2, k1] at e1
      omega
  · rw [Sq_qput] at hb
    by_cases hc : b = a
    · subst hc
      rw [if_pos rfl] at hb
      cases hb
      exact Or.inr ⟨by rw [hso, if_pos ⟨rfl, rfl⟩], hdat⟩
    · rw [if_neg hc] at hb
      exact Or.inl (by rw [hsq b hc]; exact hb)
/-! constructors -/
theorem ct_acinit : CT G 1 20 mJxa1e45_init_da8c8 [.ref a] M (fun r M1 => r = none ∧ M1 = M) := by
  refine ct_go (by decide +kernel) (Nat.le_of_ble_eq_true rfl) (L := [(0, .ref a)]) rfl ?_
  refine xw_aload_n dJxa1e45_init_da8c8_0 rfl rfl ?_
  refine xw_obj dJxa1e45_init_da8c8_1 tw_101 tw_71 tw_72 (Nat.le_of_ble_eq_true rfl) (Nat.le_of_ble_eq_true rfl) ?_
  exact xw_vret rfl dJxa1e45_init_da8c8_4 ⟨rfl, rfl⟩
theorem ct_alinit {mc sz : Int32} {ev : Value} (ho : So M 0 a = some [.int mc, ev, .int sz]) : CT G 2 40 mJxc12de_init_da8c8 [.ref a] M (fun r M1 => r = none ∧ M1 = oput M 0 a (some [.int 0, ev, .int sz])) := by
  refine ct_go (by decide +kernel) (Nat.le_of_ble_eq_true rfl) (L := [(0, .ref a)]) rfl ?_
  refine xw_aload_n dJxc12de_init_da8c8_0 rfl rfl ?_
  refine xw_callI (q2 := mJxa1e45_init_da8c8) (n2 := 0) (Bs := []) (rest := []) (ct_acinit) rfl dJxc12de_init_da8c8_1 rfl rfl tw_98 tw_99 tw_41 tw_100 (by decide +kernel) rfl (Nat.le_of_ble_eq_true rfl) (Nat.le_of_ble_eq_true rfl) (Nat.le_of_ble_eq_true rfl) (fun rr M1 hr hle1 => ?_)
  obtain ⟨rfl, hM1⟩ := hr
  obtain rfl := hM1.symm
  refine xw_aload_n dJxc12de_init_da8c8_4 rfl rfl ?_
  refine xw_iconst (v := 0) dJxc12de_init_da8c8_5 (by decide) ?_
  refine xw_put (ci := 0) (k := 0) tyJx4a65c dJxc12de_init_da8c8_6 ho rfl inJx4a65c tyJx4a65c_ok nmJx4a65c (by decide) tw_106 (Or.inl rfl) rfl rfl rfl rfl (Nat.le_of_ble_eq_true rfl) ?_
  dsimp only [List.set]
  exact xw_vret rfl dJxc12de_init_da8c8_9 ⟨rfl, rfl⟩
/-- new ArrayList(): an empty list of no capacity -/
theorem ct_linit (hw : Wf M) : CT G 3 60 mJx4a65c_init_da8c8 [.ref (Sz M)] (oput (grow M 3 0) 0 (Sz M) (some [.int 0, .null, .int 0])) (fun r M1 => r = none ∧ M1 = qput (grow M 3 50) (Sz M) (some ([], 0, 0, 0))) := by
  refine ct_go (by decide +kernel) (Nat.le_of_ble_eq_true rfl) (L := [(0, .ref (Sz M))]) rfl ?_
  have ho : So (oput (grow M 3 0) 0 (Sz M) (some [.int 0, .null, .int 0])) 0 (Sz M) = some [.int 0, .null, .int 0] := by rw [So_oput, if_pos ⟨rfl, rfl⟩]
  have hw5 : Wf (qput (grow M 3 50) (Sz M) (some ([], 0, 0, 0))) := by
    obtain ⟨w2, w3, w4, w5, w6⟩ := Wf.grown (n := 3) (k := 50) hw
    refine ⟨w2, w3, w4, w5, fun b y hb => ?_⟩
    rw [Sq_qput] at hb
    by_cases hc : b = Sz M
    · subst hc
      rw [if_pos rfl] at hb
      cases hb
      exact ⟨by show Sk (grow M 3 50) (Sz M) = 50; rw [Sk_grow, if_pos rfl], by show Sz M < Sz M + 1; omega, Nat.le_refl _, fun z => absurd z (by decide)⟩
    · rw [if_neg hc] at hb
      exact w6 b y hb
  refine xw_aload_n dJx4a65c_init_da8c8_0 rfl rfl ?_
  refine xw_callI (q2 := mJxc12de_init_da8c8) (n2 := 0) (Bs := []) (rest := []) (ct_alinit ho) rfl dJx4a65c_init_da8c8_1 rfl rfl tw_95 tw_96 tw_42 tw_97 (by decide +kernel) rfl (Nat.le_of_ble_eq_true rfl) (Nat.le_of_ble_eq_true rfl) (Nat.le_of_ble_eq_true rfl) (fun rr M1 hr hle1 => ?_)
  obtain ⟨rfl, rfl⟩ := hr
  refine xw_aload_n dJx4a65c_init_da8c8_4 rfl rfl ?_
  refine xw_getE tw_102 dJx4a65c_init_da8c8_5 ?_
  refine xw_put (ci := 0) (k := 1) tyJx4a65c dJx4a65c_init_da8c8_8 (show So _ 0 (Sz M) = some [.int 0, .null, .int 0] by rw [So_oput, if_pos ⟨rfl, rfl⟩]) rfl inJx4a65c tyJx4a65c_ok nmJx4a65c (by decide) tw_104 (Or.inl rfl) rfl rfl rfl rfl (Nat.le_of_ble_eq_true rfl) ?_
  dsimp only [List.set]
  refine xw_view (M2 := qput (grow M 3 50) (Sz M) (some ([], 0, 0, 0))) (fun _ => hw5) rfl rfl (fun H h => ?_) ?_
  · refine Sh.view h hw5 rfl (fun c b fs hb => Or.inl ?_) (fun b y hb => hb) (fun b y hb => hb) (fun c b y hb => Or.inl hb) (fun b y hb => ?_)
    · have hb' : So M c b = some fs := hb
      have := (hw.1 c b fs hb').2.2
      simp only [So_oput, So_grow]
      rw [if_neg (fun z => by omega), if_neg (fun z => by omega), if_neg (fun z => by omega)]
      exact hb'
    · rw [Sq_qput] at hb
      by_cases hc : b = Sz M
      · subst hc
        rw [if_pos rfl] at hb
        cases hb
        exact Or.inr ⟨by rw [So_oput, if_pos ⟨rfl, rfl⟩]; rfl, fun z => absurd z (by decide)⟩
      · rw [if_neg hc] at hb
        exact Or.inl hb
  exact xw_vret rfl dJx4a65c_init_da8c8_11 ⟨rfl, rfl⟩
/-! growing -/
theorem ct_newLength {cap : Nat} (h0 : 0 < cap) (hc : cap ≤ 10000000) : CT G 1 22 mJ8_newLength_cabcc [.int (nI cap), .int (nI 1), .int (nI (cap / 2))] M (fun r M1 => r = some (.int (nI (cap + max 1 (cap / 2)))) ∧ M1 = M) := by
  refine ct_go (by decide +kernel) (Nat.le_of_ble_eq_true rfl) (L := [(0, .int (nI cap)), (1, .int (nI 1)), (2, .int (nI (cap / 2)))]) rfl ?_
  have e1 : nI cap + (if nI 1 < nI (cap / 2) then nI (cap / 2) else nI 1) = nI (cap + max 1 (cap / 2)) := by
    by_cases c : 1 < cap / 2
    · rw [if_pos (nI_lt c (by omega)), nI_add, Nat.max_eq_right (by omega)]
    · rw [if_neg (nI_nlt (by omega) (by decide)), nI_add, Nat.max_eq_left (by omega)]
  have hb : cap + max 1 (cap / 2) ≤ 20000001 := by
    have := Nat.max_le.mpr (show 1 ≤ 10000001 ∧ cap / 2 ≤ 10000001 by omega)
    omega
  refine xw_iload_n dJ8_newLength_cabcc_0 rfl rfl ?_
  refine xw_iload_n dJ8_newLength_cabcc_1 rfl rfl ?_
  refine xw_iload_n dJ8_newLength_cabcc_2 rfl rfl ?_
  refine xw_max dJ8_newLength_cabcc_3 tw_298 tw_299 tw_55 tw_300 (Nat.le_of_ble_eq_true rfl) (Nat.le_of_ble_eq_true rfl) ?_
  refine xw_iadd dJ8_newLength_cabcc_6 ?_
  rw [e1]
  refine xw_istore_n (L2 := [(3, .int (nI (cap + max 1 (cap / 2)))), (0, .int (nI cap)), (1, .int (nI 1)), (2, .int (nI (cap / 2)))]) dJ8_newLength_cabcc_7 rfl (by decide) rfl ?_
  refine xw_iconst (v := 0) dJ8_newLength_cabcc_8 (by decide) ?_
  refine xw_iload_n dJ8_newLength_cabcc_9 rfl rfl ?_
  refine xw_pc (pc2 := 10) rfl ?_
  refine xw_icmp_ge (tgt := 21) dJ8_newLength_cabcc_10 (by decide) (fun zz => absurd zz (fun z => absurd (show nI (cap + max 1 (cap / 2)) ≤ nI 0 from z) (nI_nle (by omega) (by omega)))) (fun _ => ?_)
  refine xw_iload_n dJ8_newLength_cabcc_13 rfl rfl ?_
  refine xw_ldc (v := 2147483639) tw_301 dJ8_newLength_cabcc_14 ?_
  refine xw_icmp_gt (tgt := 21) dJ8_newLength_cabcc_16 (by decide) (fun zz => absurd zz (show ¬ (nI 2147483639 < nI (cap + max 1 (cap / 2))) from nI_nlt (by omega) (by omega))) (fun _ => ?_)
  refine xw_iload_n dJ8_newLength_cabcc_19 rfl rfl ?_
  exact xw_iret rfl dJ8_newLength_cabcc_20 ⟨rfl, rfl⟩
/-- a heap with a new data array of c places that hold g, now the list's -/
def gw (M : hx_S) (a : Nat) (mc nn : Int32) (c : Nat) (g : Nat → Option Nat) : hx_S := oput (rput (grow M c 24) 2 (Sz M) (some (c, g))) 0 a (some [.int mc, .ref (Sz M), .int nn])
theorem ct_copy3 {e cap c ci N : Nat} {f : Nat → Option Nat} {C : String} {T0 : u_T} (hw : Wf M) (hr0 : Sr M 2 e = some (cap, f)) (hcc : cap ≤ c) (hc : c ≤ 20000001) (hc0 : vwCl[ci]? = some (C, T0, N)) (hcast : ∀ s : State, KS G s → va_Nw (.castable C "java/lang/Object") s) (hel : ∀ i y : Nat, i < cap → f i = some y → ∃ vs, So M ci y = some vs) :
    CT G 1 26 mJ7_copyOf_6403c [.ref e, .int (nI c), .ref (gM G)] M (fun r M1 => r = some (.ref (Sz M)) ∧ M1 = rput (grow M c 24) 2 (Sz M) (some (c, va_cpy f (fun _ => none) 0 0 cap))) := by
  refine ct_go (by decide +kernel) (Nat.le_of_ble_eq_true rfl) (L := [(0, .ref e), (1, .int (nI c)), (2, .ref (gM G))]) rfl ?_
  have he : e < Sz M := (hw.2.2.2.1 2 e _ hr0).2.2
  have hr1 : Sr (rput (grow M c 24) 2 (Sz M) (some (c, fun _ => none))) 2 e = some (cap, f) := by rw [Sr_rput, if_neg (fun z => by omega)]; exact hr0
  have hr2 : Sr (rput (grow M c 24) 2 (Sz M) (some (c, fun _ => none))) 2 (Sz M) = some (c, fun _ => none) := by rw [Sr_rput, if_pos ⟨rfl, rfl⟩]
  have e0 : (nI cap).toNatClampNeg = cap := nI_clamp (by omega)
  have ez : (0 : Int32).toNatClampNeg = 0 := by decide
  have em : (if nI c < nI cap then nI c else nI cap) = nI cap := if_neg (nI_nlt hcc (by omega))
  refine xw_aload_n dJ7_copyOf_6403c_0 rfl rfl ?_
  refine xw_ldcM tw_330 dJ7_copyOf_6403c_1 ?_
  refine xw_acmp_ne (rx := (some (gM G))) (ry := (some (gM G))) (tgt := 13) dJ7_copyOf_6403c_3 (by decide) (fun zz => absurd rfl zz) (fun _ => ?_)
  refine xw_iload_n dJ7_copyOf_6403c_6 rfl rfl ?_
  refine xw_newR (k := 2) (by decide) tw_332 dJ7_copyOf_6403c_7 (nI_pos (by omega)) (nI_clamp (by omega)) (by omega) ?_
  refine xw_goto (tgt := 24) dJ7_copyOf_6403c_10 (by decide) ?_
  refine xw_astore_n (L2 := [(3, .ref (Sz M)), (0, .ref e), (1, .int (nI c)), (2, .ref (gM G))]) dJ7_copyOf_6403c_24 rfl (by decide) rfl ?_
  refine xw_aload_n dJ7_copyOf_6403c_25 rfl rfl ?_
  refine xw_iconst (v := 0) dJ7_copyOf_6403c_26 (by decide) ?_
  refine xw_aload_n dJ7_copyOf_6403c_27 rfl rfl ?_
  refine xw_iconst (v := 0) dJ7_copyOf_6403c_28 (by decide) ?_
  refine xw_aload_n dJ7_copyOf_6403c_29 rfl rfl ?_
  refine xw_rlen dJ7_copyOf_6403c_30 hr1 ?_
  refine xw_iload_n dJ7_copyOf_6403c_31 rfl rfl ?_
  refine xw_pc (pc2 := 32) rfl ?_
  refine xw_min dJ7_copyOf_6403c_32 tw_333 tw_334 tw_55 tw_335 (Nat.le_of_ble_eq_true rfl) (Nat.le_of_ble_eq_true rfl) ?_
  rw [em]
  refine xw_copy dJ7_copyOf_6403c_35 hr1 hr2 (by decide) (by decide) (nI_pos (by omega)) (by rw [e0, ez]; omega) (by rw [e0, ez]; omega) hc0 hcast (fun i hi y hy => by rw [e0] at hi; rw [ez, Nat.zero_add] at hy; exact hel i y hi hy) tw_336 tw_337 tw_57 (Nat.le_of_ble_eq_true rfl) (Nat.le_of_ble_eq_true rfl) ?_
  rw [e0, ez]
  refine xw_aload_n dJ7_copyOf_6403c_38 rfl rfl ?_
  exact xw_aret rfl (Or.inr ⟨_, rfl⟩) (Or.inr ⟨_, rfl⟩) dJ7_copyOf_6403c_39 ⟨rfl, rput_rput _ _ _ _ _⟩
theorem ct_copy2 {e cap c ci N : Nat} {f : Nat → Option Nat} {C : String} {T0 : u_T} (hw : Wf M) (hr0 : Sr M 2 e = some (cap, f)) (hcc : cap ≤ c) (hc : c ≤ 20000001) (hc0 : vwCl[ci]? = some (C, T0, N)) (hcast : ∀ s : State, KS G s → va_Nw (.castable C "java/lang/Object") s) (hel : ∀ i y : Nat, i < cap → f i = some y → ∃ vs, So M ci y = some vs) :
    CT G 2 49 mJ7_copyOf_1904c [.ref e, .int (nI c)] M (fun r M1 => r = some (.ref (Sz M)) ∧ M1 = rput (grow M c 24) 2 (Sz M) (some (c, va_cpy f (fun _ => none) 0 0 cap))) := by
  refine ct_go (by decide +kernel) (Nat.le_of_ble_eq_true rfl) (L := [(0, .ref e), (1, .int (nI c))]) rfl ?_
  refine xw_aload_n dJ7_copyOf_1904c_0 rfl rfl ?_
  refine xw_iload_n dJ7_copyOf_1904c_1 rfl rfl ?_
  refine xw_aload_n dJ7_copyOf_1904c_2 rfl rfl ?_
  refine xw_getC dJ7_copyOf_1904c_3 hr0 tw_308 tw_1059 tw_309 (Nat.le_of_ble_eq_true rfl) (Nat.le_of_ble_eq_true rfl) ?_
  refine xw_callS (q2 := mJ7_copyOf_6403c) (n2 := 3) (Bs := [.ref e, .int (nI c), .ref (gM G)]) (rest := []) (ct_copy3 hw hr0 hcc hc hc0 hcast hel) dJ7_copyOf_1904c_6 rfl tw_327 tw_328 tw_56 tw_329 (by decide +kernel) rfl (Nat.le_of_ble_eq_true rfl) (Nat.le_of_ble_eq_true rfl) (Nat.le_of_ble_eq_true rfl) (fun rr M1 hr hle1 => ?_)
  obtain ⟨rfl, rfl⟩ := hr
  exact xw_aret rfl (Or.inr ⟨_, rfl⟩) (Or.inr ⟨_, rfl⟩) dJ7_copyOf_1904c_9 ⟨rfl, rfl⟩
/-- how many places a full list gets -/
def ncap (cap : Nat) : Nat := if cap = 0 then 10 else cap + max 1 (cap / 2)
theorem ncap_gt (cap : Nat) : cap < ncap cap := by unfold ncap; split <;> omega
theorem ncap_le {cap : Nat} (h : cap ≤ 10000000) : ncap cap ≤ 20000001 := by
  unfold ncap
  split
  · omega
  · have := Nat.max_le.mpr (show 1 ≤ 10000001 ∧ cap / 2 ≤ 10000001 by omega)
    omega
/-- the open list a of c elements over the data e with cap places that hold f; no capacity: the static empty array -/
def qop (G : hx_G) (M : hx_S) (a : Nat) (mc : Int32) (n e cap : Nat) (f : Nat → Option Nat) : Prop := So M 0 a = some [.int mc, .ref e, .int (nI n)] ∧ ((cap = 0 ∧ e = gE G) ∨ (0 < cap ∧ Sr M 2 e = some (cap, f)))
theorem ct_grow1 {n e cap ci N : Nat} {mc : Int32} {f : Nat → Option Nat} {C : String} {T0 : u_T} (hw : Wf M) (ho : qop G M a mc n e cap f) (hn : n = cap) (hc : cap ≤ 10000000) (hc0 : vwCl[ci]? = some (C, T0, N)) (hcast : ∀ s : State, KS G s → va_Nw (.castable C "java/lang/Object") s) (hel : ∀ i y : Nat, i < cap → f i = some y → ∃ vs, So M ci y = some vs) :
    CT G 3 70 mJx4a65c_grow_92f84 [.ref a, .int (nI (n + 1))] M (fun r M1 => r = some (.ref (Sz M)) ∧ M1 = gw M a mc (nI n) (ncap cap) (if cap = 0 then (fun _ => none) else va_cpy f (fun _ => none) 0 0 cap)) := by
  obtain ⟨hob, hd⟩ := ho
  have haz : a < Sz M := (hw.1 0 a _ hob).2.2
  rcases hd with ⟨h0, rfl⟩ | ⟨h0, hr0⟩
  · subst h0
    subst hn
    refine ct_go (by decide +kernel) (Nat.le_of_ble_eq_true rfl) (L := [(0, .ref a), (1, .int (nI (0 + 1)))]) rfl ?_
    have e1 : (if (10 : Int32) < nI (0 + 1) then nI (0 + 1) else 10) = 10 := by decide +kernel
    have hob1 : So (rput (grow M 10 24) 2 (Sz M) (some (10, fun _ => none))) 0 a = some [.int mc, .ref (gE G), .int (nI 0)] := hob
    refine xw_aload_n dJx4a65c_grow_92f84_0 rfl rfl ?_
    refine xw_get (ci := 0) (k := 1) (v := .ref (gE G)) dJx4a65c_grow_92f84_1 hob rfl inJx4a65c (by decide) tw_104 (Or.inl rfl) rfl ?_
    refine xw_lenE dJx4a65c_grow_92f84_4 ?_
    refine xw_istore_n (L2 := [(2, .int 0), (0, .ref a), (1, .int (nI (0 + 1)))]) dJx4a65c_grow_92f84_5 rfl (by decide) rfl ?_
    refine xw_iload_n dJx4a65c_grow_92f84_6 rfl rfl ?_
    refine xw_if_gt (tgt := 20) dJx4a65c_grow_92f84_7 (by decide) (fun zz => absurd zz (by decide)) (fun _ => ?_)
    refine xw_aload_n dJx4a65c_grow_92f84_10 rfl rfl ?_
    refine xw_get (ci := 0) (k := 1) (v := .ref (gE G)) dJx4a65c_grow_92f84_11 hob rfl inJx4a65c (by decide) tw_104 (Or.inl rfl) rfl ?_
    refine xw_getE tw_102 dJx4a65c_grow_92f84_14 ?_
    refine xw_acmp_eq (rx := (some (gE G))) (ry := (some (gE G))) (tgt := 45) dJx4a65c_grow_92f84_17 (by decide) (fun _ => ?_) (fun zz => absurd rfl zz)
    refine xw_aload_n dJx4a65c_grow_92f84_45 rfl rfl ?_
    refine xw_bipush (v := 10) dJx4a65c_grow_92f84_46 (by decide) ?_
    refine xw_iload_n dJx4a65c_grow_92f84_48 rfl rfl ?_
    refine xw_max dJx4a65c_grow_92f84_49 tw_339 tw_299 tw_55 tw_300 (Nat.le_of_ble_eq_true rfl) (Nat.le_of_ble_eq_true rfl) ?_
    rw [e1]
    refine xw_newR (k := 2) (by decide) tw_340 dJx4a65c_grow_92f84_52 (N := 10) (by decide) (by decide) (by decide) ?_
    refine xw_dup_x1 dJx4a65c_grow_92f84_55 rfl rfl ?_
    refine xw_put (ci := 0) (k := 1) tyJx4a65c dJx4a65c_grow_92f84_56 hob1 rfl inJx4a65c tyJx4a65c_ok nmJx4a65c (by decide) tw_104 (Or.inl rfl) rfl rfl rfl rfl (Nat.le_of_ble_eq_true rfl) ?_
    dsimp only [List.set]
    exact xw_aret rfl (Or.inr ⟨_, rfl⟩) (Or.inr ⟨_, rfl⟩) dJx4a65c_grow_92f84_59 ⟨rfl, rfl⟩
  · subst hn
    have hne : ¬ n = 0 := by omega
    refine ct_go (by decide +kernel) (Nat.le_of_ble_eq_true rfl) (L := [(0, .ref a), (1, .int (nI (n + 1)))]) rfl ?_
    have e1 : nI (n + 1) - nI n = nI 1 := by
      have k := pk_sub (a := n + 1) (b := n) (by omega)
      rw [Nat.add_sub_cancel_left] at k
      exact k
    have e2 : nI n >>> ((1 : Int32) &&& 31) = nI (n / 2) := by
      have k := pk_shrN (n := n) (by omega) ((1 : Int32) &&& 31) 1 (by decide)
      rw [Nat.pow_one] at k
      exact k
    have e3 : ncap n = n + max 1 (n / 2) := by unfold ncap; rw [if_neg hne]
    have hb2 : n + max 1 (n / 2) ≤ 20000001 := by rw [← e3]; exact ncap_le hc
    have hcc : n ≤ n + max 1 (n / 2) := by omega
    refine xw_aload_n dJx4a65c_grow_92f84_0 rfl rfl ?_
    refine xw_pc (pc2 := 1) rfl ?_
    refine xw_get (ci := 0) (k := 1) (v := .ref e) dJx4a65c_grow_92f84_1 hob rfl inJx4a65c (by decide) tw_104 (Or.inl rfl) rfl ?_
    refine xw_rlen dJx4a65c_grow_92f84_4 hr0 ?_
    refine xw_istore_n (L2 := [(2, .int (nI n)), (0, .ref a), (1, .int (nI (n + 1)))]) dJx4a65c_grow_92f84_5 rfl (by decide) rfl ?_
    refine xw_iload_n dJx4a65c_grow_92f84_6 rfl rfl ?_
    refine xw_if_gt (tgt := 20) dJx4a65c_grow_92f84_7 (by decide) (fun _ => ?_) (fun zz => absurd (show (0 : Int32) < nI n from nI_lt h0 (by omega)) zz)
    refine xw_iload_n dJx4a65c_grow_92f84_20 rfl rfl ?_
    refine xw_iload_n dJx4a65c_grow_92f84_21 rfl rfl ?_
    refine xw_iload_n dJx4a65c_grow_92f84_22 rfl rfl ?_
    refine xw_isub dJx4a65c_grow_92f84_23 ?_
    refine xw_iload_n dJx4a65c_grow_92f84_24 rfl rfl ?_
    refine xw_iconst (v := 1) dJx4a65c_grow_92f84_25 (by decide) ?_
    refine xw_ishr dJx4a65c_grow_92f84_26 ?_
    rw [e1, e2]
    refine xw_callS (q2 := mJ8_newLength_cabcc) (n2 := 3) (Bs := [.int (nI n), .int (nI 1), .int (nI (n / 2))]) (rest := []) (ct_newLength h0 hc) dJx4a65c_grow_92f84_27 rfl tw_295 tw_296 tw_54 tw_297 (by decide +kernel) rfl (Nat.le_of_ble_eq_true rfl) (Nat.le_of_ble_eq_true rfl) (Nat.le_of_ble_eq_true rfl) (fun rr M1 hr hle1 => ?_)
    obtain ⟨rfl, hM1⟩ := hr
    obtain rfl := hM1.symm
    refine xw_istore_n (L2 := [(3, .int (nI (n + max 1 (n / 2)))), (2, .int (nI n)), (0, .ref a), (1, .int (nI (n + 1)))]) dJx4a65c_grow_92f84_30 rfl (by decide) rfl ?_
    refine xw_aload_n dJx4a65c_grow_92f84_31 rfl rfl ?_
    refine xw_aload_n dJx4a65c_grow_92f84_32 rfl rfl ?_
    refine xw_get (ci := 0) (k := 1) (v := .ref e) dJx4a65c_grow_92f84_33 hob rfl inJx4a65c (by decide) tw_104 (Or.inl rfl) rfl ?_
    refine xw_iload_n dJx4a65c_grow_92f84_36 rfl rfl ?_
    refine xw_pc (pc2 := 37) rfl ?_
    refine xw_callS (q2 := mJ7_copyOf_1904c) (n2 := 2) (Bs := [.ref e, .int (nI (n + max 1 (n / 2)))]) (rest := [.ref a]) (ct_copy2 hw hr0 hcc hb2 hc0 hcast hel) dJx4a65c_grow_92f84_37 rfl tw_305 tw_306 tw_56 tw_307 (by decide +kernel) rfl (Nat.le_of_ble_eq_true rfl) (Nat.le_of_ble_eq_true rfl) (Nat.le_of_ble_eq_true rfl) (fun rr M1 hr hle1 => ?_)
    obtain ⟨rfl, rfl⟩ := hr
    refine xw_dup_x1 dJx4a65c_grow_92f84_40 rfl rfl ?_
    refine xw_put (ci := 0) (k := 1) tyJx4a65c dJx4a65c_grow_92f84_41 (show So (rput (grow M (n + max 1 (n / 2)) 24) 2 (Sz M) (some (n + max 1 (n / 2), va_cpy f (fun _ => none) 0 0 n))) 0 a = some [.int mc, .ref e, .int (nI n)] from hob) rfl inJx4a65c tyJx4a65c_ok nmJx4a65c (by decide) tw_104 (Or.inl rfl) rfl rfl rfl rfl (Nat.le_of_ble_eq_true rfl) ?_
    dsimp only [List.set]
    exact xw_aret rfl (Or.inr ⟨_, rfl⟩) (Or.inr ⟨_, rfl⟩) dJx4a65c_grow_92f84_44 ⟨rfl, by rw [if_neg hne, e3]; rfl⟩
theorem ct_grow0 {n e cap ci N : Nat} {mc : Int32} {f : Nat → Option Nat} {C : String} {T0 : u_T} (hw : Wf M) (ho : qop G M a mc n e cap f) (hn : n = cap) (hc : cap ≤ 10000000) (hc0 : vwCl[ci]? = some (C, T0, N)) (hcast : ∀ s : State, KS G s → va_Nw (.castable C "java/lang/Object") s) (hel : ∀ i y : Nat, i < cap → f i = some y → ∃ vs, So M ci y = some vs) :
    CT G 4 93 mJx4a65c_grow_d5877 [.ref a] M (fun r M1 => r = some (.ref (Sz M)) ∧ M1 = gw M a mc (nI n) (ncap cap) (if cap = 0 then (fun _ => none) else va_cpy f (fun _ => none) 0 0 cap)) := by
  refine ct_go (by decide +kernel) (Nat.le_of_ble_eq_true rfl) (L := [(0, .ref a)]) rfl ?_
  refine xw_aload_n dJx4a65c_grow_d5877_0 rfl rfl ?_
  refine xw_aload_n dJx4a65c_grow_d5877_1 rfl rfl ?_
  refine xw_get (ci := 0) (k := 2) (v := .int (nI n)) dJx4a65c_grow_d5877_2 ho.1 rfl inJx4a65c (by decide) tw_105 (Or.inl rfl) rfl ?_
  refine xw_iconst (v := 1) dJx4a65c_grow_d5877_5 (by decide) ?_
  refine xw_iadd dJx4a65c_grow_d5877_6 ?_
  rw [nI_1]
  refine xw_callV (q2 := mJx4a65c_grow_92f84) (n2 := 1) (ci := 0) (Bs := [.int (nI (n + 1))]) (rest := []) (ct_grow1 hw ho hn hc hc0 hcast hel) dJx4a65c_grow_d5877_7 rfl (o_at ho.1) rfl rfl tw_291 tw_293 tw_3 tw_43 tw_294 (by decide +kernel) rfl (Nat.le_of_ble_eq_true rfl) (Nat.le_of_ble_eq_true rfl) (Nat.le_of_ble_eq_true rfl) (fun rr M1 hr hle1 => ?_)
  obtain ⟨rfl, rfl⟩ := hr
  exact xw_aret rfl (Or.inr ⟨_, rfl⟩) (Or.inr ⟨_, rfl⟩) dJx4a65c_grow_d5877_10 ⟨rfl, rfl⟩
end J2
end
section
/-! ARRAYLIST: add, remove, clear -/
section J3
variable {G : hx_G} {M : hx_S} {a ci N : Nat} {C : String} {T0 : u_T}
abbrev exf (f : Nat → Option Nat) (cap : Nat) : Nat → Option Nat := if cap = 0 then (fun _ => none) else va_cpy f (fun _ => none) 0 0 cap
def a3 (M : hx_S) (a : Nat) (mc : Int32) (n e cap : Nat) (f : Nat → Option Nat) (v : Nat) : hx_S :=
  if n = cap then oput (rput (gw M a mc (nI n) (ncap cap) (exf f cap)) 2 (Sz M) (some (ncap cap, va_up (exf f cap) n (some v)))) 0 a (some [.int mc, .ref (Sz M), .int (nI (n + 1))])
  else oput (rput M 2 e (some (cap, va_up f n (some v)))) 0 a (some [.int mc, .ref e, .int (nI (n + 1))])
theorem ct_add3 {n e cap v : Nat} {mc : Int32} {f : Nat → Option Nat} {vs : List Value} (hw : Wf M) (ho : qop G M a mc n e cap f) (hn : n ≤ cap) (hc : cap ≤ 10000000) (hci : 0 < ci) (hv : So M ci v = some vs) (hc0 : vwCl[ci]? = some (C, T0, N)) (hcast : ∀ s : State, KS G s → va_Nw (.castable C "java/lang/Object") s) (hel : ∀ i y : Nat, i < cap → f i = some y → ∃ vs, So M ci y = some vs) :
    CT G 5 113 mJx4a65c_add_72be8 [.ref a, .ref v, .ref e, .int (nI n)] M (fun r M1 => r = none ∧ M1 = a3 M a mc n e cap f v) := by
  have hlen : ∀ {P : Option Value → hx_S → Prop} {L : List (Nat × Value)} {st : List Value}, XW G 5 113 mJx4a65c_add_72be8 [.ref a, .ref v, .ref e, .int (nI n)] M P M 3 L (.int (nI cap) :: st) → XW G 5 113 mJx4a65c_add_72be8 [.ref a, .ref v, .ref e, .int (nI n)] M P M 2 L (.ref e :: st) := by
    intro P L st k
    rcases ho.2 with ⟨h0, he⟩ | ⟨h0, hr0⟩
    · subst he
      subst h0
      exact xw_lenE dJx4a65c_add_72be8_2 k
    · exact xw_rlen dJx4a65c_add_72be8_2 hr0 k
  refine ct_go (by decide +kernel) (Nat.le_of_ble_eq_true rfl) (L := [(0, .ref a), (1, .ref v), (2, .ref e), (3, .int (nI n))]) rfl ?_
  refine xw_iload_n dJx4a65c_add_72be8_0 rfl rfl ?_
  refine xw_aload_n dJx4a65c_add_72be8_1 rfl rfl ?_
  refine hlen ?_
  by_cases hnc : n = cap
  · refine xw_icmp_ne (tgt := 11) dJx4a65c_add_72be8_3 (by decide) (fun zz => absurd (by rw [hnc]) zz) (fun _ => ?_)
    refine xw_aload_n dJx4a65c_add_72be8_6 rfl rfl ?_
    refine xw_callV (q2 := mJx4a65c_grow_d5877) (n2 := 0) (ci := 0) (Bs := []) (rest := []) (ct_grow0 hw ho hnc hc hc0 hcast hel) dJx4a65c_add_72be8_7 rfl (o_at ho.1) rfl rfl tw_287 tw_289 tw_2 tw_43 tw_290 (by decide +kernel) rfl (Nat.le_of_ble_eq_true rfl) (Nat.le_of_ble_eq_true rfl) (Nat.le_of_ble_eq_true rfl) (fun rr M1 hr hle1 => ?_)
    obtain ⟨rfl, rfl⟩ := hr
    have hob' : So (gw M a mc (nI n) (ncap cap) (exf f cap)) 0 a = some [.int mc, .ref (Sz M), .int (nI n)] := by unfold gw; rw [So_oput, if_pos ⟨rfl, rfl⟩]
    have hr' : Sr (gw M a mc (nI n) (ncap cap) (exf f cap)) 2 (Sz M) = some (ncap cap, exf f cap) := by unfold gw; rw [Sr_oput, Sr_rput, if_pos ⟨rfl, rfl⟩]
    have hv' : So (gw M a mc (nI n) (ncap cap) (exf f cap)) ci v = some vs := by unfold gw; rw [So_oput, if_neg (fun z => by omega)]; exact hv
    have hlt : n < ncap cap := by rw [hnc]; exact ncap_gt cap
    have hnl := ncap_le hc
    refine xw_astore_n (L2 := [(2, .ref (Sz M)), (0, .ref a), (1, .ref v), (3, .int (nI n))]) dJx4a65c_add_72be8_10 rfl (by decide) rfl ?_
    refine xw_aload_n dJx4a65c_add_72be8_11 rfl rfl ?_
    refine xw_iload_n dJx4a65c_add_72be8_12 rfl rfl ?_
    refine xw_aload_n dJx4a65c_add_72be8_13 rfl rfl ?_
    refine xw_aast dJx4a65c_add_72be8_14 hr' (vp_in_nI hlt (by omega)) hv' hc0 (fit_cast hcast) ?_
    rw [nI_clamp (by omega)]
    refine xw_aload_n dJx4a65c_add_72be8_15 rfl rfl ?_
    refine xw_iload_n dJx4a65c_add_72be8_16 rfl rfl ?_
    refine xw_iconst (v := 1) dJx4a65c_add_72be8_17 (by decide) ?_
    refine xw_iadd dJx4a65c_add_72be8_18 ?_
    rw [nI_1]
    refine xw_put (ci := 0) (k := 2) tyJx4a65c dJx4a65c_add_72be8_19 (show So (rput (gw M a mc (nI n) (ncap cap) (exf f cap)) 2 (Sz M) (some (ncap cap, va_up (exf f cap) n (some v)))) 0 a = some [.int mc, .ref (Sz M), .int (nI n)] from hob') rfl inJx4a65c tyJx4a65c_ok nmJx4a65c (by decide) tw_105 (Or.inl rfl) rfl rfl rfl rfl (Nat.le_of_ble_eq_true rfl) ?_
    dsimp only [List.set]
    exact xw_vret rfl dJx4a65c_add_72be8_22 ⟨rfl, by unfold a3; rw [if_pos hnc]⟩
  · have h0 : 0 < cap := by omega
    have hr0 : Sr M 2 e = some (cap, f) := by
      rcases ho.2 with z | z
      · exact absurd z.1 (by omega)
      · exact z.2
    refine xw_icmp_ne (tgt := 11) dJx4a65c_add_72be8_3 (by decide) (fun _ => ?_) (fun zz => absurd zz (fun z => hnc ((nI_eq (by omega) (by omega)).mp z)))
    refine xw_aload_n dJx4a65c_add_72be8_11 rfl rfl ?_
    refine xw_iload_n dJx4a65c_add_72be8_12 rfl rfl ?_
    refine xw_aload_n dJx4a65c_add_72be8_13 rfl rfl ?_
    refine xw_pc (pc2 := 14) rfl ?_
    refine xw_aast dJx4a65c_add_72be8_14 hr0 (vp_in_nI (show n < cap by omega) (by omega)) hv hc0 (fit_cast hcast) ?_
    rw [nI_clamp (by omega)]
    refine xw_aload_n dJx4a65c_add_72be8_15 rfl rfl ?_
    refine xw_iload_n dJx4a65c_add_72be8_16 rfl rfl ?_
    refine xw_iconst (v := 1) dJx4a65c_add_72be8_17 (by decide) ?_
    refine xw_iadd dJx4a65c_add_72be8_18 ?_
    rw [nI_1]
    refine xw_put (ci := 0) (k := 2) tyJx4a65c dJx4a65c_add_72be8_19 (show So (rput M 2 e (some (cap, va_up f n (some v)))) 0 a = some [.int mc, .ref e, .int (nI n)] from ho.1) rfl inJx4a65c tyJx4a65c_ok nmJx4a65c (by decide) tw_105 (Or.inl rfl) rfl rfl rfl rfl (Nat.le_of_ble_eq_true rfl) ?_
    dsimp only [List.set]
    exact xw_vret rfl dJx4a65c_add_72be8_22 ⟨rfl, by unfold a3; rw [if_neg hnc]⟩
/-- what add makes of a list -/
def addq (M : hx_S) (a : Nat) (x : List Nat × Nat × Nat × Int32) (v : Nat) : hx_S :=
  if x.1.length < x.2.1 then qput M a (some (x.1 ++ [v], x.2.1, x.2.2.1, x.2.2.2 + 1))
  else qput (grow M (ncap x.2.1) (100 + a)) a (some (x.1 ++ [v], ncap x.2.1, Sz M, x.2.2.2 + 1))
theorem app_at (xs : List Nat) (v j : Nat) : (xs ++ [v])[j]? = if j = xs.length then some v else xs[j]? := by
  by_cases h : j = xs.length
  · subst h; simp
  · rw [if_neg h]
    by_cases h2 : j < xs.length
    · rw [List.getElem?_append_left h2]
    · rw [List.getElem?_append_right (by omega), List.getElem?_eq_none (by simp; omega), List.getElem?_eq_none (by omega)]
theorem ct_add {x : List Nat × Nat × Nat × Int32} {v : Nat} {vs : List Value} (hx : Sq M a = some x) (hc : x.2.1 ≤ 10000000) (hci : 0 < ci) (hv : So M ci v = some vs) (hc0 : vwCl[ci]? = some (C, T0, N)) (hcast : ∀ s : State, KS G s → va_Nw (.castable C "java/lang/Object") s) (hel : ∀ y, y ∈ x.1 → ∃ vs, So M ci y = some vs) :
    CT G 6 136 mJx4a65c_add_9ea2d [.ref a, .ref v] M (fun r M1 => r = some (.int 1) ∧ M1 = addq M a x v) := by
  refine ct_wf fun hw => ?_
  obtain ⟨k1, k2, k3, k4⟩ := hw.2.2.2.2 a x hx
  obtain ⟨xs, cap, e, mc⟩ := x
  simp only at k3 k4 hc hel
  obtain ⟨eE, heE⟩ : ∃ eE, eE = (if cap = 0 then gE G else e) := ⟨_, rfl⟩
  have ho0 : So (qraw G M a (xs, cap, e, mc)) 0 a = some [.int mc, .ref eE, .int (nI xs.length)] := by rw [So_qself, qobj, heE]
  have hw1 : Wf (oput (qraw G M a (xs, cap, e, mc)) 0 a (some [.int (mc + 1), .ref eE, .int (nI xs.length)])) := Wf.oset (wf_qraw hw hx) ho0
  have ho1 : So (oput (qraw G M a (xs, cap, e, mc)) 0 a (some [.int (mc + 1), .ref eE, .int (nI xs.length)])) 0 a = some [.int (mc + 1), .ref eE, .int (nI xs.length)] := by rw [So_oput, if_pos ⟨rfl, rfl⟩]
  have hop : qop G (oput (qraw G M a (xs, cap, e, mc)) 0 a (some [.int (mc + 1), .ref eE, .int (nI xs.length)])) a (mc + 1) xs.length eE cap (fun j => xs[j]?) := by
    refine ⟨ho1, ?_⟩
    by_cases h0 : cap = 0
    · exact Or.inl ⟨h0, by rw [heE, if_pos h0]⟩
    · refine Or.inr ⟨by omega, ?_⟩
      rw [heE, if_neg h0, Sr_oput]
      exact Sr_qself (x := (xs, cap, e, mc)) (show 0 < cap by omega)
  have hso1 : ∀ c b, 0 < c → So (oput (qraw G M a (xs, cap, e, mc)) 0 a (some [.int (mc + 1), .ref eE, .int (nI xs.length)])) c b = So M c b := by
    intro c b h
    rw [So_oput, if_neg (fun z => by omega), So_qraw, if_neg (fun z => by omega)]
  refine ct_go (by decide +kernel) (Nat.le_of_ble_eq_true rfl) (L := [(0, .ref a), (1, .ref v)]) rfl (xw_open hx ?_)
  refine xw_aload_n dJx4a65c_add_9ea2d_0 rfl rfl ?_
  refine xw_dup dJx4a65c_add_9ea2d_1 rfl ?_
  refine xw_get (ci := 0) (k := 0) (v := .int mc) dJx4a65c_add_9ea2d_2 ho0 rfl inJx4a65c (by decide) tw_107 (Or.inr tw_sf) rfl ?_
  refine xw_iconst (v := 1) dJx4a65c_add_9ea2d_5 (by decide) ?_
  refine xw_iadd dJx4a65c_add_9ea2d_6 ?_
  refine xw_put (ci := 0) (k := 0) tyJx4a65c dJx4a65c_add_9ea2d_7 ho0 rfl inJx4a65c tyJx4a65c_ok nmJx4a65c (by decide) tw_107 (Or.inr tw_sf) rfl rfl rfl rfl (Nat.le_of_ble_eq_true rfl) ?_
  dsimp only [List.set]
  refine xw_aload_n dJx4a65c_add_9ea2d_10 rfl rfl ?_
  refine xw_aload_n dJx4a65c_add_9ea2d_11 rfl rfl ?_
  refine xw_aload_n dJx4a65c_add_9ea2d_12 rfl rfl ?_
  refine xw_get (ci := 0) (k := 1) (v := .ref eE) dJx4a65c_add_9ea2d_13 ho1 rfl inJx4a65c (by decide) tw_104 (Or.inl rfl) rfl ?_
  refine xw_aload_n dJx4a65c_add_9ea2d_16 rfl rfl ?_
  refine xw_get (ci := 0) (k := 2) (v := .int (nI xs.length)) dJx4a65c_add_9ea2d_17 ho1 rfl inJx4a65c (by decide) tw_105 (Or.inl rfl) rfl ?_
  refine xw_callV (q2 := mJx4a65c_add_72be8) (n2 := 3) (ci := 0) (Bs := [.ref v, .ref eE, .int (nI xs.length)]) (rest := []) (ct_add3 hw1 hop k3 hc hci (by rw [hso1 ci v hci]; exact hv) hc0 hcast (fun i y hi hy => by rw [hso1 ci y hci]; exact hel y (List.mem_of_getElem? hy))) dJx4a65c_add_9ea2d_20 rfl (o_at ho1) rfl rfl tw_283 tw_285 tw_1 tw_43 tw_286 (by decide +kernel) rfl (Nat.le_of_ble_eq_true rfl) (Nat.le_of_ble_eq_true rfl) (Nat.le_of_ble_eq_true rfl) (fun rr M1 hr hle1 => ?_)
  obtain ⟨rfl, rfl⟩ := hr
  by_cases hlt : xs.length < cap
  · have hcp : ¬ xs.length = cap := by omega
    have hc1 : ¬ cap = 0 := by omega
    have hee : eE = e := by rw [heE, if_neg hc1]
    subst hee
    have hw2 : Wf (qput M a (some (xs ++ [v], cap, eE, mc + 1))) := wf_qset hw hx (by simp; omega) k4
    refine xw_view (M2 := addq M a (xs, cap, eE, mc) v) (fun _ => ?_) ?_ ?_ (fun H h => ?_) ?_
    · unfold addq; rw [if_pos hlt]; exact hw2
    · unfold addq a3; rw [if_pos hlt, if_neg hcp]; simp only [Sz_oput, Sz_iput, Sz_jput, Sz_rput, Sz_qput, Sz_kput, Sz_grow, Sz_qraw]
    · unfold addq a3; rw [if_pos hlt, if_neg hcp]; simp only [Sl_oput, Sl_iput, Sl_jput, Sl_rput, Sl_qput, Sl_kput, Sl_grow, Sl_qraw]
    · unfold addq; rw [if_pos hlt]
      refine sh_qset hw hx ?_ ?_ ?_ ?_ ?_ ?_ ?_ hw2 h
      · unfold a3; rw [if_neg hcp]; simp only [Sz_oput, Sz_iput, Sz_jput, Sz_rput, Sz_qput, Sz_kput, Sz_grow, Sz_qraw]
      · intro c b
        unfold a3
        rw [if_neg hcp, So_oput, So_rput, So_oput, So_qraw]
        by_cases hz : c = 0 ∧ b = a
        · rw [if_pos hz, if_pos hz]; simp [qobj, hc1]
        · rw [if_neg hz, if_neg hz, if_neg hz, if_neg hz]
      · intro b; unfold a3; rw [if_neg hcp]; simp only [Si_oput, Si_iput, Si_jput, Si_rput, Si_qput, Si_kput, Si_grow, Si_qraw]
      · intro b; unfold a3; rw [if_neg hcp]; simp only [Sj_oput, Sj_iput, Sj_jput, Sj_rput, Sj_qput, Sj_kput, Sj_grow, Sj_qraw]
      · intro c b y hy
        unfold a3
        rw [if_neg hcp, Sr_oput, Sr_rput, if_neg (fun z => ?_), Sr_oput, Sr_qraw, if_neg (fun z => ?_)]
        · exact hy
        · have e1 := hw.2.2.2.1 c b y hy
          rw [z.2.2, (k4 z.1).1] at e1
          omega
        · have e1 := hw.2.2.2.1 c b y hy
          rw [z.2, (k4 (by omega)).1] at e1
          omega
      · intro b hb; unfold a3; rw [if_neg hcp]; simp only [Sq_oput, Sq_iput, Sq_jput, Sq_rput, Sq_qput, Sq_kput, Sq_grow, Sq_qraw, if_neg hb]
      · intro _
        refine ⟨va_up (fun j => xs[j]?) xs.length (some v), ?_, fun j hj => ?_⟩
        · unfold a3; rw [if_neg hcp, Sr_oput, Sr_rput, if_pos ⟨rfl, rfl⟩]
        · show va_up _ _ _ j = (xs ++ [v])[j]?
          rw [app_at]
          rfl
    refine xw_iconst (v := 1) dJx4a65c_add_9ea2d_23 (by decide) ?_
    refine xw_pc (pc2 := 24) rfl ?_
    exact xw_zret rfl rfl dJx4a65c_add_9ea2d_24 ⟨rfl, rfl⟩
  · have hcp : xs.length = cap := by omega
    have hkey : ∀ b, b < Sz M → Sk (grow M (ncap cap) (100 + a)) b = Sk M b := fun b hb => by rw [Sk_grow, if_neg (by omega)]
    have hwg : Wf (grow M (ncap cap) (100 + a)) := Wf.grown hw
    have hng := ncap_gt cap
    have hsz1 : Sz (oput (qraw G M a (xs, cap, e, mc)) 0 a (some [.int (mc + 1), .ref eE, .int (nI xs.length)])) = Sz M := by rw [Sz_oput, Sz_qraw]
    have hw2 : Wf (qput (grow M (ncap cap) (100 + a)) a (some (xs ++ [v], ncap cap, Sz M, mc + 1))) := wf_qset hwg (x := (xs, cap, e, mc)) hx (by simp; omega) (fun _ => ⟨by show Sk (grow M (ncap cap) (100 + a)) (Sz M) = _; rw [Sk_grow, if_pos rfl], by show Sz M < Sz M + 1; omega⟩)
    refine xw_view (M2 := addq M a (xs, cap, e, mc) v) (fun _ => ?_) ?_ ?_ (fun H h => ?_) ?_
    · unfold addq; rw [if_neg hlt]; exact hw2
    · unfold addq a3; rw [if_neg hlt, if_pos hcp]; unfold gw; simp only [Sz_oput, Sz_iput, Sz_jput, Sz_rput, Sz_qput, Sz_kput, Sz_grow, Sz_qraw]
    · unfold addq a3; rw [if_neg hlt, if_pos hcp]; unfold gw; simp only [Sl_oput, Sl_iput, Sl_jput, Sl_rput, Sl_qput, Sl_kput, Sl_grow, Sl_qraw]
    · unfold addq; rw [if_neg hlt]
      refine sh_qset hwg (x := (xs, cap, e, mc)) hx ?_ ?_ ?_ ?_ ?_ ?_ ?_ hw2 h
      · unfold a3 gw; rw [if_pos hcp]; simp only [Sz_oput, Sz_iput, Sz_jput, Sz_rput, Sz_qput, Sz_kput, Sz_grow, Sz_qraw]
      · intro c b
        unfold a3 gw
        rw [if_pos hcp, So_oput, So_rput, So_oput, So_rput, So_grow, So_oput, So_qraw]
        by_cases hz : c = 0 ∧ b = a
        · rw [if_pos hz, if_pos hz, hsz1]
          have : ¬ ncap cap = 0 := by omega
          simp [qobj, this]
        · rw [if_neg hz, if_neg hz, if_neg hz, if_neg hz, if_neg hz, So_grow]
      · intro b; unfold a3 gw; rw [if_pos hcp]; simp only [Si_oput, Si_iput, Si_jput, Si_rput, Si_qput, Si_kput, Si_grow, Si_qraw]
      · intro b; unfold a3 gw; rw [if_pos hcp]; simp only [Sj_oput, Sj_iput, Sj_jput, Sj_rput, Sj_qput, Sj_kput, Sj_grow, Sj_qraw]
      · intro c b y hy
        have hy' : Sr M c b = some y := hy
        have e1 := hw.2.2.2.1 c b y hy'
        unfold a3 gw
        rw [if_pos hcp, Sr_oput, Sr_rput, if_neg (fun z => ?_), Sr_oput, Sr_rput, if_neg (fun z => ?_), Sr_grow, Sr_oput, Sr_qraw, if_neg (fun z => ?_)]
        · exact hy'
        · rw [z.2.2, (k4 z.1).1] at e1
          omega
        · rw [hsz1] at z
          omega
        · rw [hsz1] at z
          omega
      · intro b hb; unfold a3 gw; rw [if_pos hcp]; simp only [Sq_oput, Sq_iput, Sq_jput, Sq_rput, Sq_qput, Sq_kput, Sq_grow, Sq_qraw, if_neg hb]
      · intro _
        refine ⟨va_up (exf (fun j => xs[j]?) cap) xs.length (some v), ?_, fun j hj => ?_⟩
        · unfold a3; rw [if_pos hcp, Sr_oput, Sr_rput, hsz1, if_pos ⟨rfl, rfl⟩]
        · show va_up (exf (fun j => xs[j]?) cap) xs.length (some v) j = (xs ++ [v])[j]?
          rw [app_at]
          by_cases h2 : j = xs.length
          · rw [if_pos h2]; subst h2; exact va_up_self _ _ _
          · rw [if_neg h2, va_up_ne _ _ h2]
            unfold exf
            by_cases h3 : cap = 0
            · rw [if_pos h3, List.getElem?_eq_none (by omega)]
            · rw [if_neg h3]
              by_cases h4 : j < cap
              · rw [pk_cpy_in (by omega) (by omega)]
                show xs[0 + (j - 0)]? = _
                rw [Nat.zero_add, Nat.sub_zero]
              · rw [pk_cpy_out (by omega), List.getElem?_eq_none (by omega)]
    refine xw_iconst (v := 1) dJx4a65c_add_9ea2d_23 (by decide) ?_
    exact xw_zret rfl rfl dJx4a65c_add_9ea2d_24 ⟨rfl, rfl⟩
end J3
end
section
/-! ARRAYLIST: remove, clear -/
section J4
variable {G : hx_G} {M : hx_S} {a ci N : Nat} {C : String} {T0 : u_T}
theorem ct_fastRemove {m e cap i : Nat} {mc : Int32} {f : Nat → Option Nat} (ho : So M 0 a = some [.int mc, .ref e, .int (nI (m + 1))]) (hr0 : Sr M 2 e = some (cap, f)) (hi : i ≤ m) (hn : m + 1 ≤ cap) (hc : cap ≤ 20000001) (hci : 0 < ci) (hc0 : vwCl[ci]? = some (C, T0, N)) (hcast : ∀ s : State, KS G s → va_Nw (.castable C "java/lang/Object") s) (hel : ∀ i y : Nat, i < cap → f i = some y → ∃ vs, So M ci y = some vs) :
    CT G 1 26 mJx4a65c_fastRemove_b59b0 [.ref a, .ref e, .int (nI i)] M (fun r M1 => r = none ∧ M1 = oput (rput M 2 e (some (cap, va_up (if i < m then va_cpy f f (i + 1) i (m - i) else f) m none))) 0 a (some [.int (mc + 1), .ref e, .int (nI m)])) := by
  refine ct_go (by decide +kernel) (Nat.le_of_ble_eq_true rfl) (L := [(0, .ref a), (1, .ref e), (2, .int (nI i))]) rfl ?_
  have ho1 : So (oput M 0 a (some [.int (mc + 1), .ref e, .int (nI (m + 1))])) 0 a = some [.int (mc + 1), .ref e, .int (nI (m + 1))] := by rw [So_oput, if_pos ⟨rfl, rfl⟩]
  have hr1 : Sr (oput M 0 a (some [.int (mc + 1), .ref e, .int (nI (m + 1))])) 2 e = some (cap, f) := hr0
  refine xw_aload_n dJx4a65c_fastRemove_b59b0_0 rfl rfl ?_
  refine xw_dup dJx4a65c_fastRemove_b59b0_1 rfl ?_
  refine xw_get (ci := 0) (k := 0) (v := .int mc) dJx4a65c_fastRemove_b59b0_2 ho rfl inJx4a65c (by decide) tw_107 (Or.inr tw_sf) rfl ?_
  refine xw_iconst (v := 1) dJx4a65c_fastRemove_b59b0_5 (by decide) ?_
  refine xw_iadd dJx4a65c_fastRemove_b59b0_6 ?_
  refine xw_put (ci := 0) (k := 0) tyJx4a65c dJx4a65c_fastRemove_b59b0_7 ho rfl inJx4a65c tyJx4a65c_ok nmJx4a65c (by decide) tw_107 (Or.inr tw_sf) rfl rfl rfl rfl (Nat.le_of_ble_eq_true rfl) ?_
  dsimp only [List.set]
  refine xw_aload_n dJx4a65c_fastRemove_b59b0_10 rfl rfl ?_
  refine xw_get (ci := 0) (k := 2) (v := .int (nI (m + 1))) dJx4a65c_fastRemove_b59b0_11 ho1 rfl inJx4a65c (by decide) tw_105 (Or.inl rfl) rfl ?_
  refine xw_iconst (v := 1) dJx4a65c_fastRemove_b59b0_14 (by decide) ?_
  refine xw_isub dJx4a65c_fastRemove_b59b0_15 ?_
  rw [nI_pred]
  refine xw_dup dJx4a65c_fastRemove_b59b0_16 rfl ?_
  refine xw_istore_n (L2 := [(3, .int (nI m)), (0, .ref a), (1, .ref e), (2, .int (nI i))]) dJx4a65c_fastRemove_b59b0_17 rfl (by decide) rfl ?_
  refine xw_iload_n dJx4a65c_fastRemove_b59b0_18 rfl rfl ?_
  by_cases hlt : i < m
  · have e1 : nI m - nI i = nI (m - i) := pk_sub (by omega)
    have q1 : (nI (i + 1)).toNatClampNeg = i + 1 := nI_clamp (by omega)
    have q2 : (nI i).toNatClampNeg = i := nI_clamp (by omega)
    have q3 : (nI (m - i)).toNatClampNeg = m - i := nI_clamp (by omega)
    refine xw_icmp_le (tgt := 34) dJx4a65c_fastRemove_b59b0_19 (by decide) (fun zz => absurd zz (fun z => absurd ((nI_leI (by omega) (by omega)).mp z) (by omega))) (fun _ => ?_)
    refine xw_aload_n dJx4a65c_fastRemove_b59b0_22 rfl rfl ?_
    refine xw_iload_n dJx4a65c_fastRemove_b59b0_23 rfl rfl ?_
    refine xw_iconst (v := 1) dJx4a65c_fastRemove_b59b0_24 (by decide) ?_
    refine xw_iadd dJx4a65c_fastRemove_b59b0_25 ?_
    refine xw_aload_n dJx4a65c_fastRemove_b59b0_26 rfl rfl ?_
    refine xw_iload_n dJx4a65c_fastRemove_b59b0_27 rfl rfl ?_
    refine xw_iload_n dJx4a65c_fastRemove_b59b0_28 rfl rfl ?_
    refine xw_iload_n dJx4a65c_fastRemove_b59b0_29 rfl rfl ?_
    refine xw_isub dJx4a65c_fastRemove_b59b0_30 ?_
    refine xw_pc (pc2 := 31) rfl ?_
    rw [nI_1, e1]
    refine xw_copy dJx4a65c_fastRemove_b59b0_31 hr1 hr1 (nI_pos (by omega)) (nI_pos (by omega)) (nI_pos (by omega)) (by rw [q1, q3]; omega) (by rw [q2, q3]; omega) hc0 hcast (fun j hj y hy => by rw [q1] at hy; rw [q3] at hj; obtain ⟨vs, h⟩ := hel _ y (by omega) hy; exact ⟨vs, by rw [So_oput, if_neg (fun z => by omega)]; exact h⟩) tw_408 tw_337 tw_57 (Nat.le_of_ble_eq_true rfl) (Nat.le_of_ble_eq_true rfl) ?_
    rw [q1, q2, q3]
    refine xw_aload_n dJx4a65c_fastRemove_b59b0_34 rfl rfl ?_
    refine xw_aload_n dJx4a65c_fastRemove_b59b0_35 rfl rfl ?_
    refine xw_iload_n dJx4a65c_fastRemove_b59b0_36 rfl rfl ?_
    refine xw_dup_x1 dJx4a65c_fastRemove_b59b0_37 rfl rfl ?_
    refine xw_put (ci := 0) (k := 2) tyJx4a65c dJx4a65c_fastRemove_b59b0_38 (show So (rput (oput M 0 a (some [.int (mc + 1), .ref e, .int (nI (m + 1))])) 2 e (some (cap, va_cpy f f (i + 1) i (m - i)))) 0 a = some [.int (mc + 1), .ref e, .int (nI (m + 1))] from ho1) rfl inJx4a65c tyJx4a65c_ok nmJx4a65c (by decide) tw_105 (Or.inl rfl) rfl rfl rfl rfl (Nat.le_of_ble_eq_true rfl) ?_
    dsimp only [List.set]
    refine xw_null dJx4a65c_fastRemove_b59b0_41 ?_
    refine xw_aastN dJx4a65c_fastRemove_b59b0_42 (show Sr _ 2 e = some (cap, va_cpy f f (i + 1) i (m - i)) by rw [Sr_oput, Sr_rput, if_pos ⟨rfl, rfl⟩]) (vp_in_nI (show m < cap by omega) (by omega)) ?_
    rw [nI_clamp (show m < 2 ^ 31 by omega)]
    exact xw_vret rfl dJx4a65c_fastRemove_b59b0_43 ⟨rfl, by rw [oput_rput, oput_rput, oput_oput, rput_rput, if_pos hlt]⟩
  · skip
    refine xw_icmp_le (tgt := 34) dJx4a65c_fastRemove_b59b0_19 (by decide) (fun _ => ?_) (fun zz => absurd (nI_le (show m ≤ i by omega) (by omega)) zz)
    refine xw_aload_n dJx4a65c_fastRemove_b59b0_34 rfl rfl ?_
    refine xw_aload_n dJx4a65c_fastRemove_b59b0_35 rfl rfl ?_
    refine xw_iload_n dJx4a65c_fastRemove_b59b0_36 rfl rfl ?_
    refine xw_dup_x1 dJx4a65c_fastRemove_b59b0_37 rfl rfl ?_
    refine xw_put (ci := 0) (k := 2) tyJx4a65c dJx4a65c_fastRemove_b59b0_38 ho1 rfl inJx4a65c tyJx4a65c_ok nmJx4a65c (by decide) tw_105 (Or.inl rfl) rfl rfl rfl rfl (Nat.le_of_ble_eq_true rfl) ?_
    dsimp only [List.set]
    refine xw_null dJx4a65c_fastRemove_b59b0_41 ?_
    refine xw_aastN dJx4a65c_fastRemove_b59b0_42 (show Sr _ 2 e = some (cap, f) from hr0) (vp_in_nI (show m < cap by omega) (by omega)) ?_
    rw [nI_clamp (show m < 2 ^ 31 by omega)]
    exact xw_vret rfl dJx4a65c_fastRemove_b59b0_43 ⟨rfl, by rw [oput_rput, oput_oput, if_neg hlt]⟩
theorem ct_remove {x : List Nat × Nat × Nat × Int32} {i : Nat} (hx : Sq M a = some x) (hi : i < x.1.length) (hc : x.2.1 ≤ 20000001) (hci : 0 < ci) (hc0 : vwCl[ci]? = some (C, T0, N)) (hcast : ∀ s : State, KS G s → va_Nw (.castable C "java/lang/Object") s) (hel : ∀ y, y ∈ x.1 → ∃ vs, So M ci y = some vs) :
    CT G 2 49 mJx4a65c_remove_915e3 [.ref a, .int (nI i)] M (fun r M1 => r = some (.ref x.1[i]) ∧ M1 = qput M a (some (x.1.eraseIdx i, x.2.1, x.2.2.1, x.2.2.2 + 1))) := by
  refine ct_wf fun hw => ?_
  obtain ⟨k1, k2, k3, k4⟩ := hw.2.2.2.2 a x hx
  obtain ⟨xs, cap, e, mc⟩ := x
  simp only at k3 k4 hc hel hi
  obtain ⟨m, hm⟩ : ∃ m, xs.length = m + 1 := ⟨xs.length - 1, by omega⟩
  have hc1 : ¬ cap = 0 := by omega
  have ho0 : So (qraw G M a (xs, cap, e, mc)) 0 a = some [.int mc, .ref e, .int (nI (m + 1))] := by rw [So_qself, qobj]; simp only [if_neg hc1, hm]
  have hr0 : Sr (qraw G M a (xs, cap, e, mc)) 2 e = some (cap, fun j => xs[j]?) := Sr_qself (x := (xs, cap, e, mc)) (show 0 < cap by omega)
  have hw2 : Wf (qput M a (some (xs.eraseIdx i, cap, e, mc + 1))) := wf_qset hw hx (by have := List.length_eraseIdx_le xs i; show (xs.eraseIdx i).length ≤ cap; omega) k4
  refine ct_go (by decide +kernel) (Nat.le_of_ble_eq_true rfl) (L := [(0, .ref a), (1, .int (nI i))]) rfl (xw_open hx ?_)
  refine xw_iload_n dJx4a65c_remove_915e3_0 rfl rfl ?_
  refine xw_aload_n dJx4a65c_remove_915e3_1 rfl rfl ?_
  refine xw_get (ci := 0) (k := 2) (v := .int (nI (m + 1))) dJx4a65c_remove_915e3_2 ho0 rfl inJx4a65c (by decide) tw_105 (Or.inl rfl) rfl ?_
  refine xw_callS (q2 := mJ15_checkIndex_7cf53) (n2 := 2) (Bs := [.int (nI i), .int (nI (m + 1))]) (rest := []) (ct_chk (show i < m + 1 by omega) (by omega)) dJx4a65c_remove_915e3_5 rfl tw_236 tw_237 tw_58 tw_238 (by decide +kernel) rfl (Nat.le_of_ble_eq_true rfl) (Nat.le_of_ble_eq_true rfl) (Nat.le_of_ble_eq_true rfl) (fun rr M1 hr hle1 => ?_)
  obtain ⟨rfl, rfl⟩ := hr
  refine xw_pop dJx4a65c_remove_915e3_8 rfl ?_
  refine xw_aload_n dJx4a65c_remove_915e3_9 rfl rfl ?_
  refine xw_pc (pc2 := 10) rfl ?_
  refine xw_get (ci := 0) (k := 1) (v := .ref e) dJx4a65c_remove_915e3_10 ho0 rfl inJx4a65c (by decide) tw_104 (Or.inl rfl) rfl ?_
  refine xw_astore_n (L2 := [(2, .ref e), (0, .ref a), (1, .int (nI i))]) dJx4a65c_remove_915e3_13 rfl (by decide) rfl ?_
  refine xw_aload_n dJx4a65c_remove_915e3_14 rfl rfl ?_
  refine xw_iload_n dJx4a65c_remove_915e3_15 rfl rfl ?_
  refine xw_aald (v := .ref xs[i]) dJx4a65c_remove_915e3_16 hr0 (vp_in_nI (show i < cap by omega) (by omega)) (by rw [nI_clamp (by omega), List.getElem?_eq_getElem hi]; rfl) ?_
  refine xw_astore_n (L2 := [(3, .ref xs[i]), (2, .ref e), (0, .ref a), (1, .int (nI i))]) dJx4a65c_remove_915e3_17 rfl (by decide) rfl ?_
  refine xw_aload_n dJx4a65c_remove_915e3_18 rfl rfl ?_
  refine xw_aload_n dJx4a65c_remove_915e3_19 rfl rfl ?_
  refine xw_iload_n dJx4a65c_remove_915e3_20 rfl rfl ?_
  refine xw_callV (q2 := mJx4a65c_fastRemove_b59b0) (n2 := 2) (ci := 0) (Bs := [.ref e, .int (nI i)]) (rest := []) (ct_fastRemove (m := m) ho0 hr0 (by omega) (by omega) hc hci hc0 hcast (fun j y hj hy => by obtain ⟨vs, h⟩ := hel y (List.mem_of_getElem? hy); exact ⟨vs, by rw [So_qraw, if_neg (fun z => by omega)]; exact h⟩)) dJx4a65c_remove_915e3_21 rfl (o_at ho0) rfl rfl tw_404 tw_406 tw_5 tw_43 tw_407 (by decide +kernel) rfl (Nat.le_of_ble_eq_true rfl) (Nat.le_of_ble_eq_true rfl) (Nat.le_of_ble_eq_true rfl) (fun rr M1 hr hle1 => ?_)
  obtain ⟨rfl, rfl⟩ := hr
  refine xw_view (M2 := qput M a (some (xs.eraseIdx i, cap, e, mc + 1))) (fun _ => hw2) (by simp only [Sz_oput, Sz_iput, Sz_jput, Sz_rput, Sz_qput, Sz_kput, Sz_grow, Sz_qraw]) (by simp only [Sl_oput, Sl_iput, Sl_jput, Sl_rput, Sl_qput, Sl_kput, Sl_grow, Sl_qraw]) (fun H h => ?_) ?_
  · refine sh_qset hw hx (by simp only [Sz_oput, Sz_iput, Sz_jput, Sz_rput, Sz_qput, Sz_kput, Sz_grow, Sz_qraw]) (fun c b => ?_) (fun b => by simp only [Si_oput, Si_iput, Si_jput, Si_rput, Si_qput, Si_kput, Si_grow, Si_qraw]) (fun b => by simp only [Sj_oput, Sj_iput, Sj_jput, Sj_rput, Sj_qput, Sj_kput, Sj_grow, Sj_qraw]) (fun c b y hy => ?_) (fun b hb => by simp only [Sq_oput, Sq_iput, Sq_jput, Sq_rput, Sq_qput, Sq_kput, Sq_grow, Sq_qraw, if_neg hb]) (fun _ => ?_) hw2 h
    · rw [So_oput, So_rput, So_qraw]
      by_cases hz : c = 0 ∧ b = a
      · rw [if_pos hz, if_pos hz]
        have e1 : (xs.eraseIdx i).length = m := by rw [List.length_eraseIdx_of_lt hi]; omega
        simp only [qobj, if_neg hc1, e1]
      · rw [if_neg hz, if_neg hz, if_neg hz]
    · have e1 := hw.2.2.2.1 c b y hy
      rw [Sr_oput, Sr_rput, if_neg (fun z => ?_), Sr_qraw, if_neg (fun z => ?_)]
      · exact hy
      · rw [z.2.2, (k4 z.1).1] at e1
        omega
      · rw [z.2, (k4 (by omega)).1] at e1
        omega
    · refine ⟨_, by rw [Sr_oput, Sr_rput, if_pos ⟨rfl, rfl⟩], fun j hj => ?_⟩
      show va_up (if i < m then va_cpy (fun j => xs[j]?) (fun j => xs[j]?) (i + 1) i (m - i) else fun j => xs[j]?) m none j = (xs.eraseIdx i)[j]?
      rw [List.getElem?_eraseIdx]
      by_cases h1 : j = m
      · subst h1
        rw [va_up_self, if_neg (by omega), List.getElem?_eq_none (by omega)]
      · rw [va_up_ne _ _ h1]
        by_cases h2 : i < m
        · rw [if_pos h2]
          by_cases h3 : j < i
          · rw [if_pos h3, pk_cpy_out (by omega)]
          · rw [if_neg h3]
            by_cases h4 : j < m
            · rw [pk_cpy_in (by omega) (by omega)]
              show xs[i + 1 + (j - i)]? = _
              rw [show i + 1 + (j - i) = j + 1 by omega]
            · rw [pk_cpy_out (by omega), List.getElem?_eq_none (by omega), List.getElem?_eq_none (by omega)]
        · rw [if_neg h2]
          by_cases h3 : j < i
          · rw [if_pos h3]
          · rw [if_neg h3, List.getElem?_eq_none (by omega), List.getElem?_eq_none (by omega)]
  refine xw_aload_n dJx4a65c_remove_915e3_24 rfl rfl ?_
  exact xw_aret rfl (Or.inl ⟨_, rfl⟩) (Or.inr ⟨_, rfl⟩) dJx4a65c_remove_915e3_25 ⟨rfl, rfl⟩
theorem ct_lclear {x : List Nat × Nat × Nat × Int32} (hx : Sq M a = some x) (hc : x.2.1 ≤ 20000001) :
    CT G 0 0 mJx4a65c_clear_da8c8 [.ref a] M (fun r M1 => r = none ∧ M1 = qput M a (some ([], x.2.1, x.2.2.1, x.2.2.2 + 1))) := by
  refine ct_wf fun hw => ?_
  obtain ⟨k1, k2, k3, k4⟩ := hw.2.2.2.2 a x hx
  obtain ⟨xs, cap, e, mc⟩ := x
  simp only at k3 k4 hc
  obtain ⟨eE, heE⟩ : ∃ eE, eE = (if cap = 0 then gE G else e) := ⟨_, rfl⟩
  have ho0 : So (qraw G M a (xs, cap, e, mc)) 0 a = some [.int mc, .ref eE, .int (nI xs.length)] := by rw [So_qself, qobj, heE]
  have ho1 : So (oput (qraw G M a (xs, cap, e, mc)) 0 a (some [.int (mc + 1), .ref eE, .int (nI xs.length)])) 0 a = some [.int (mc + 1), .ref eE, .int (nI xs.length)] := by rw [So_oput, if_pos ⟨rfl, rfl⟩]
  have hw2 : Wf (qput M a (some ([], cap, e, mc + 1))) := wf_qset hw hx (Nat.zero_le _) k4
  obtain ⟨Mb, hMb⟩ : ∃ Mb, Mb = oput (oput (qraw G M a (xs, cap, e, mc)) 0 a (some [.int (mc + 1), .ref eE, .int (nI xs.length)])) 0 a (some [.int (mc + 1), .ref eE, .int 0]) := ⟨_, rfl⟩
  have hz0 : ∀ H g, (0 < cap → g = fun (_ : Nat) => (none : Option Nat)) → Sh G (if cap = 0 then Mb else rput Mb 2 e (some (cap, g))) H → Sh G (qput M a (some ([], cap, e, mc + 1))) H := by
    intro H g hg h
    refine sh_qset hw hx ?_ (fun c b => ?_) (fun b => ?_) (fun b => ?_) (fun c b y hy => ?_) (fun b hb => ?_) (fun hcp => ?_) hw2 h
    · subst hMb; split <;> simp only [Sz_oput, Sz_iput, Sz_jput, Sz_rput, Sz_qput, Sz_kput, Sz_grow, Sz_qraw]
    · have e1 : So (if cap = 0 then Mb else rput Mb 2 e (some (cap, g))) c b = So Mb c b := by split <;> rfl
      rw [e1, hMb, So_oput, So_oput, So_qraw]
      by_cases hz : c = 0 ∧ b = a
      · rw [if_pos hz, if_pos hz]; simp only [qobj, heE]; rfl
      · rw [if_neg hz, if_neg hz, if_neg hz, if_neg hz]
    · subst hMb; split <;> simp only [Si_oput, Si_iput, Si_jput, Si_rput, Si_qput, Si_kput, Si_grow, Si_qraw]
    · subst hMb; split <;> simp only [Sj_oput, Sj_iput, Sj_jput, Sj_rput, Sj_qput, Sj_kput, Sj_grow, Sj_qraw]
    · have e1 := hw.2.2.2.1 c b y hy
      have e2 : Sr Mb c b = some y := by
        rw [hMb, Sr_oput, Sr_oput, Sr_qraw, if_neg (fun z => ?_)]
        · exact hy
        · rw [z.2.2, (k4 z.1).1] at e1
          omega
      by_cases h0 : cap = 0
      · rw [if_pos h0]; exact e2
      · rw [if_neg h0, Sr_rput, if_neg (fun z => ?_)]
        · exact e2
        · rw [z.2, (k4 (by omega)).1] at e1
          omega
    · have e1 : Sq (if cap = 0 then Mb else rput Mb 2 e (some (cap, g))) b = Sq Mb b := by split <;> rfl
      rw [e1, hMb]; simp only [Sq_oput, Sq_iput, Sq_jput, Sq_rput, Sq_qput, Sq_kput, Sq_grow, Sq_qraw, if_neg hb]
    · have hcp' : 0 < cap := hcp
      refine ⟨g, ?_, fun j hj => ?_⟩
      · show Sr (if cap = 0 then Mb else rput Mb 2 e (some (cap, g))) 2 e = _
        rw [if_neg (by omega), Sr_rput, if_pos ⟨rfl, rfl⟩]
      · rw [hg hcp']; rfl
  refine ct_go (by decide +kernel) (Nat.le_of_ble_eq_true rfl) (L := [(0, .ref a)]) rfl (xw_open hx ?_)
  refine xw_aload_n dJx4a65c_clear_da8c8_0 rfl rfl ?_
  refine xw_dup dJx4a65c_clear_da8c8_1 rfl ?_
  refine xw_get (ci := 0) (k := 0) (v := .int mc) dJx4a65c_clear_da8c8_2 ho0 rfl inJx4a65c (by decide) tw_107 (Or.inr tw_sf) rfl ?_
  refine xw_iconst (v := 1) dJx4a65c_clear_da8c8_5 (by decide) ?_
  refine xw_iadd dJx4a65c_clear_da8c8_6 ?_
  refine xw_put (ci := 0) (k := 0) tyJx4a65c dJx4a65c_clear_da8c8_7 ho0 rfl inJx4a65c tyJx4a65c_ok nmJx4a65c (by decide) tw_107 (Or.inr tw_sf) rfl rfl rfl rfl (Nat.le_of_ble_eq_true rfl) ?_
  dsimp only [List.set]
  refine xw_aload_n dJx4a65c_clear_da8c8_10 rfl rfl ?_
  refine xw_pc (pc2 := 11) rfl ?_
  refine xw_get (ci := 0) (k := 1) (v := .ref eE) dJx4a65c_clear_da8c8_11 ho1 rfl inJx4a65c (by decide) tw_104 (Or.inl rfl) rfl ?_
  refine xw_astore_n (L2 := [(1, .ref eE), (0, .ref a)]) dJx4a65c_clear_da8c8_14 rfl (by decide) rfl ?_
  refine xw_aload_n dJx4a65c_clear_da8c8_15 rfl rfl ?_
  refine xw_get (ci := 0) (k := 2) (v := .int (nI xs.length)) dJx4a65c_clear_da8c8_16 ho1 rfl inJx4a65c (by decide) tw_105 (Or.inl rfl) rfl ?_
  refine xw_istore_n (L2 := [(2, .int (nI xs.length)), (1, .ref eE), (0, .ref a)]) dJx4a65c_clear_da8c8_19 rfl (by decide) rfl ?_
  refine xw_aload_n dJx4a65c_clear_da8c8_20 rfl rfl ?_
  refine xw_iconst (v := 0) dJx4a65c_clear_da8c8_21 (by decide) ?_
  refine xw_dup_x1 dJx4a65c_clear_da8c8_22 rfl rfl ?_
  refine xw_put (ci := 0) (k := 2) tyJx4a65c dJx4a65c_clear_da8c8_23 ho1 rfl inJx4a65c tyJx4a65c_ok nmJx4a65c (by decide) tw_105 (Or.inl rfl) rfl rfl rfl rfl (Nat.le_of_ble_eq_true rfl) ?_
  dsimp only [List.set]
  refine xw_istore_n (L2 := [(3, .int 0), (2, .int (nI xs.length)), (1, .ref eE), (0, .ref a)]) dJx4a65c_clear_da8c8_26 rfl (by decide) rfl ?_
  by_cases h0 : cap = 0
  · have hl0 : xs = [] := List.length_eq_zero_iff.mp (by omega)
    have hle : nI xs.length ≤ 0 := by rw [hl0]; decide +kernel
    refine xw_iload_n dJx4a65c_clear_da8c8_27 rfl rfl ?_
    refine xw_iload_n dJx4a65c_clear_da8c8_28 rfl rfl ?_
    refine xw_icmp_ge (tgt := 42) dJx4a65c_clear_da8c8_29 (by decide) (fun _ => ?_) (fun zz => absurd hle zz)
    refine xw_view (M2 := qput M a (some ([], cap, e, mc + 1))) (fun _ => hw2) (by simp only [Sz_oput, Sz_iput, Sz_jput, Sz_rput, Sz_qput, Sz_kput, Sz_grow, Sz_qraw]) (by simp only [Sl_oput, Sl_iput, Sl_jput, Sl_rput, Sl_qput, Sl_kput, Sl_grow, Sl_qraw]) (fun H h => hz0 H (fun _ => none) (fun _ => rfl) (by rw [if_pos h0, hMb]; exact h)) ?_
    exact xw_vret rfl dJx4a65c_clear_da8c8_42 ⟨rfl, rfl⟩
  · have hee : eE = e := by rw [heE, if_neg h0]
    subst hee
    have hr0 : Sr (qraw G M a (xs, cap, eE, mc)) 2 eE = some (cap, fun j => xs[j]?) := Sr_qself (x := (xs, cap, eE, mc)) (show 0 < cap by omega)
    have loop : ∀ (k i : Nat) (g : Nat → Option Nat), i + k = xs.length → (∀ j, j < i → g j = none) → (∀ j, xs.length ≤ j → g j = none) → XW G 0 0 mJx4a65c_clear_da8c8 [.ref a] M (fun r M1 => r = none ∧ M1 = qput M a (some ([], cap, eE, mc + 1))) (rput Mb 2 eE (some (cap, g))) 27 [(3, .int (nI i)), (2, .int (nI xs.length)), (1, .ref eE), (0, .ref a)] [] := by
      intro k
      induction k with
      | zero =>
        intro i g hik h1 h2
        refine xw_iload_n dJx4a65c_clear_da8c8_27 rfl rfl ?_
        refine xw_iload_n dJx4a65c_clear_da8c8_28 rfl rfl ?_
        refine xw_icmp_ge (tgt := 42) dJx4a65c_clear_da8c8_29 (by decide) (fun _ => ?_) (fun zz => absurd (nI_le (show xs.length ≤ i by omega) (by omega)) zz)
        have hg : g = fun _ => none := funext fun j => by
          by_cases h : j < i
          · exact h1 j h
          · exact h2 j (by omega)
        refine xw_view (M2 := qput M a (some ([], cap, eE, mc + 1))) (fun _ => hw2) (by rw [hMb]; simp only [Sz_oput, Sz_iput, Sz_jput, Sz_rput, Sz_qput, Sz_kput, Sz_grow, Sz_qraw]) (by rw [hMb]; simp only [Sl_oput, Sl_iput, Sl_jput, Sl_rput, Sl_qput, Sl_kput, Sl_grow, Sl_qraw]) (fun H h => hz0 H g (fun _ => hg) (by rw [if_neg h0]; exact h)) ?_
        exact xw_vret rfl dJx4a65c_clear_da8c8_42 ⟨rfl, rfl⟩
      | succ k ih =>
        intro i g hik h1 h2
        refine xw_iload_n dJx4a65c_clear_da8c8_27 rfl rfl ?_
        refine xw_iload_n dJx4a65c_clear_da8c8_28 rfl rfl ?_
        refine xw_pc (pc2 := 29) rfl ?_
        refine xw_icmp_ge (tgt := 42) dJx4a65c_clear_da8c8_29 (by decide) (fun zz => absurd zz (fun z => absurd ((nI_leI (by omega) (by omega)).mp z) (by omega))) (fun _ => ?_)
        refine xw_aload_n dJx4a65c_clear_da8c8_32 rfl rfl ?_
        refine xw_iload_n dJx4a65c_clear_da8c8_33 rfl rfl ?_
        refine xw_null dJx4a65c_clear_da8c8_34 ?_
        refine xw_aastN dJx4a65c_clear_da8c8_35 (show Sr (rput Mb 2 eE (some (cap, g))) 2 eE = some (cap, g) by rw [Sr_rput, if_pos ⟨rfl, rfl⟩]) (vp_in_nI (show i < cap by omega) (by omega)) ?_
        rw [nI_clamp (show i < 2 ^ 31 by omega)]
        refine xw_iinc (v := (nI i) + 1) (L2 := [(3, .int ((nI i) + 1)), (2, .int (nI xs.length)), (1, .ref eE), (0, .ref a)]) dJx4a65c_clear_da8c8_36 rfl rfl (by decide) rfl ?_
        refine xw_goto (tgt := 27) dJx4a65c_clear_da8c8_39 (by decide) ?_
        have ee : rput (rput Mb 2 eE (some (cap, g))) 2 eE (some (cap, va_up g i none)) = rput Mb 2 eE (some (cap, va_up g i none)) := rput_rput _ _ _ _ _
        rw [ee, nI_1]
        refine ih (i + 1) (va_up g i none) (by omega) (fun j hj => ?_) (fun j hj => ?_)
        · by_cases h : j = i
          · subst h; exact va_up_self _ _ _
          · rw [va_up_ne _ _ h]; exact h1 j (by omega)
        · rw [va_up_ne _ _ (by omega)]; exact h2 j hj
    have e0 : rput Mb 2 eE (some (cap, fun j => xs[j]?)) = Mb := by
      refine hx_ext (Sz_rput _ _ _ _) (Sl_rput _ _ _ _) (fun b => Sk_rput _ _ _ _ b) (fun c b => So_rput _ _ _ _ c b) (fun b => Si_rput _ _ _ _ b) (fun b => Sj_rput _ _ _ _ b) (fun c b => ?_) (fun b => Sq_rput _ _ _ _ b)
      rw [Sr_rput]
      by_cases hz : c = 2 ∧ b = eE
      · rw [if_pos hz, hz.1, hz.2, hMb]; exact hr0.symm
      · rw [if_neg hz]
    have l0 := loop xs.length 0 (fun j => xs[j]?) (by omega) (fun j hj => by omega) (fun j hj => List.getElem?_eq_none hj)
    rw [e0, hMb, nI_0] at l0
    exact xw_pc rfl l0
end J4
end
section
/-! THE CLASS, its leaves -/
/-- a new empty list -/
def nq (M : hx_S) : hx_S := qput (grow M 3 50) (Sz M) (some ([], 0, 0, 0))
section N0
variable {M : hx_S}
theorem nq_oput (c a : Nat) (x : Option (List Value)) : nq (oput M c a x) = oput (nq M) c a x := rfl
theorem Sz_nq : Sz (nq M) = Sz M + 1 := rfl
theorem Sl_nq : Sl (nq M) = Sl M + 3 := rfl
theorem So_nq (c b : Nat) : So (nq M) c b = So M c b := rfl
theorem Si_nq (b : Nat) : Si (nq M) b = Si M b := rfl
theorem Sj_nq (b : Nat) : Sj (nq M) b = Sj M b := rfl
theorem Sr_nq (c b : Nat) : Sr (nq M) c b = Sr M c b := rfl
theorem Sq_nq (b : Nat) : Sq (nq M) b = if b = Sz M then some ([], 0, 0, 0) else Sq M b := rfl
end N0
section C1
variable {G : hx_G} {M : hx_S} {a : Nat}
theorem ct_Value {k : Int32} {x : Int64} {u v : Value} (ho : So M 9 a = some [u, v]) : CT G 1 20 mX8_init [.ref a, .int k, .long x] M (fun r M1 => r = none ∧ M1 = oput M 9 a (some [.int k, .long x])) := by
  refine ct_go (by decide +kernel) (Nat.le_of_ble_eq_true rfl) (L := [(0, .ref a), (1, .int k), (2, .long x)]) rfl ?_
  refine xw_aload_n dX8_init_0 rfl rfl ?_
  refine xw_obj dX8_init_1 tw_78 tw_71 tw_72 (Nat.le_of_ble_eq_true rfl) (Nat.le_of_ble_eq_true rfl) ?_
  refine xw_aload_n dX8_init_4 rfl rfl ?_
  refine xw_iload_n dX8_init_5 rfl rfl ?_
  refine xw_putF (ci := 9) (k := 0) tyX8 dX8_init_6 ho rfl inX8 tyX8_ok nmX8 (by decide) tw_79 (Or.inl rfl) rfl rfl rfl rfl rfl rfl (Nat.le_of_ble_eq_true rfl) ?_
  dsimp only [List.set]
  refine xw_aload_n dX8_init_9 rfl rfl ?_
  refine xw_lload_n dX8_init_10 rfl rfl ?_
  refine xw_putF (ci := 9) (k := 1) tyX8 dX8_init_11 (show So _ 9 a = some [.int k, v] by rw [So_oput, if_pos ⟨rfl, rfl⟩]) rfl inX8 tyX8_ok nmX8 (by decide) tw_83 (Or.inl rfl) rfl rfl rfl rfl rfl rfl (Nat.le_of_ble_eq_true rfl) ?_
  dsimp only [List.set]
  rw [oput_oput]
  exact xw_vret rfl dX8_init_14 ⟨rfl, rfl⟩
theorem ct_Result {c : Int32} {w : Nat} {u v : Value} (ho : So M 8 a = some [u, v]) : CT G 1 20 mX7_init [.ref a, .ref w, .int c] M (fun r M1 => r = none ∧ M1 = oput M 8 a (some [.ref w, .int c])) := by
  refine ct_go (by decide +kernel) (Nat.le_of_ble_eq_true rfl) (L := [(0, .ref a), (1, .ref w), (2, .int c)]) rfl ?_
  refine xw_aload_n dX7_init_0 rfl rfl ?_
  refine xw_obj dX7_init_1 tw_729 tw_71 tw_72 (Nat.le_of_ble_eq_true rfl) (Nat.le_of_ble_eq_true rfl) ?_
  refine xw_aload_n dX7_init_4 rfl rfl ?_
  refine xw_aload_n dX7_init_5 rfl rfl ?_
  refine xw_putF (ci := 8) (k := 0) tyX7 dX7_init_6 ho rfl inX7 tyX7_ok nmX7 (by decide) tw_730 (Or.inl rfl) rfl rfl rfl rfl rfl rfl (Nat.le_of_ble_eq_true rfl) ?_
  dsimp only [List.set]
  refine xw_aload_n dX7_init_9 rfl rfl ?_
  refine xw_iload_n dX7_init_10 rfl rfl ?_
  refine xw_putF (ci := 8) (k := 1) tyX7 dX7_init_11 (show So _ 8 a = some [.ref w, v] by rw [So_oput, if_pos ⟨rfl, rfl⟩]) rfl inX7 tyX7_ok nmX7 (by decide) tw_732 (Or.inl rfl) rfl rfl rfl rfl rfl rfl (Nat.le_of_ble_eq_true rfl) ?_
  dsimp only [List.set]
  rw [oput_oput]
  exact xw_vret rfl dX7_init_14 ⟨rfl, rfl⟩
theorem ct_Arc {s p : Int32} {w : Nat} {u v z : Value} (ho : So M 1 a = some [u, v, z]) : CT G 1 20 mX0_init [.ref a, .int s, .ref w, .int p] M (fun r M1 => r = none ∧ M1 = oput M 1 a (some [.int s, .ref w, .int p])) := by
  refine ct_go (by decide +kernel) (Nat.le_of_ble_eq_true rfl) (L := [(0, .ref a), (1, .int s), (2, .ref w), (3, .int p)]) rfl ?_
  refine xw_aload_n dX0_init_0 rfl rfl ?_
  refine xw_obj dX0_init_1 tw_265 tw_71 tw_72 (Nat.le_of_ble_eq_true rfl) (Nat.le_of_ble_eq_true rfl) ?_
  refine xw_aload_n dX0_init_4 rfl rfl ?_
  refine xw_iload_n dX0_init_5 rfl rfl ?_
  refine xw_pc (pc2 := 6) rfl ?_
  refine xw_putF (ci := 1) (k := 0) tyX0 dX0_init_6 ho rfl inX0 tyX0_ok nmX0 (by decide) tw_266 (Or.inl rfl) rfl rfl rfl rfl rfl rfl (Nat.le_of_ble_eq_true rfl) ?_
  dsimp only [List.set]
  refine xw_aload_n dX0_init_9 rfl rfl ?_
  refine xw_aload_n dX0_init_10 rfl rfl ?_
  refine xw_putF (ci := 1) (k := 1) tyX0 dX0_init_11 (show So _ 1 a = some [.int s, v, z] by rw [So_oput, if_pos ⟨rfl, rfl⟩]) rfl inX0 tyX0_ok nmX0 (by decide) tw_268 (Or.inl rfl) rfl rfl rfl rfl rfl rfl (Nat.le_of_ble_eq_true rfl) ?_
  dsimp only [List.set]
  rw [oput_oput]
  refine xw_aload_n dX0_init_14 rfl rfl ?_
  refine xw_iload_n dX0_init_15 rfl rfl ?_
  refine xw_putF (ci := 1) (k := 2) tyX0 dX0_init_16 (show So _ 1 a = some [.int s, .ref w, z] by rw [So_oput, if_pos ⟨rfl, rfl⟩]) rfl inX0 tyX0_ok nmX0 (by decide) tw_270 (Or.inl rfl) rfl rfl rfl rfl rfl rfl (Nat.le_of_ble_eq_true rfl) ?_
  dsimp only [List.set]
  rw [oput_oput]
  exact xw_vret rfl dX0_init_19 ⟨rfl, rfl⟩
theorem ct_Cell {w : Nat} {u v : Value} (ho : So M 2 a = some [u, v]) : CT G 4 80 mX1_init [.ref a, .ref w] M (fun r M1 => r = none ∧ M1 = oput (nq M) 2 a (some [.ref (Sz M), .ref w])) := by
  refine ct_wf fun hw => ct_go (by decide +kernel) (Nat.le_of_ble_eq_true rfl) (L := [(0, .ref a), (1, .ref w)]) rfl ?_
  refine xw_aload_n dX1_init_0 rfl rfl ?_
  refine xw_obj dX1_init_1 tw_693 tw_71 tw_72 (Nat.le_of_ble_eq_true rfl) (Nat.le_of_ble_eq_true rfl) ?_
  refine xw_aload_n dX1_init_4 rfl rfl ?_
  refine xw_new (ci := 0) (fs := [.int 0, .null, .int 0]) tyJx4a65c dX1_init_5 rfl inJx4a65c tyJx4a65c_ok (by decide) tw_694 tw_91 tw_43 (fun j hj => by rcases (show j = 0 ∨ j = 1 ∨ j = 2 by omega) with rfl | rfl | rfl <;> rfl) ?_
  refine xw_dup dX1_init_8 rfl ?_
  refine xw_callI (q2 := mJx4a65c_init_da8c8) (n2 := 0) (Bs := []) (rest := [.ref (Sz M), .ref a]) (ct_linit hw) rfl dX1_init_9 rfl rfl tw_695 tw_93 tw_43 tw_94 (by decide +kernel) rfl (Nat.le_of_ble_eq_true rfl) (Nat.le_of_ble_eq_true rfl) (Nat.le_of_ble_eq_true rfl) (fun rr M1 hr hle1 => ?_)
  obtain ⟨rfl, rfl⟩ := hr
  refine xw_putF (ci := 2) (k := 0) tyX1 dX1_init_12 (show So (nq M) 2 a = some [u, v] from ho) rfl inX1 tyX1_ok nmX1 (by decide) tw_696 (Or.inl rfl) rfl rfl rfl rfl rfl rfl (Nat.le_of_ble_eq_true rfl) ?_
  dsimp only [List.set]
  refine xw_aload_n dX1_init_15 rfl rfl ?_
  refine xw_aload_n dX1_init_16 rfl rfl ?_
  refine xw_put (ci := 2) (k := 1) tyX1 dX1_init_17 (show So _ 2 a = some [.ref (Sz M), v] by rw [So_oput, if_pos ⟨rfl, rfl⟩]) rfl inX1 tyX1_ok nmX1 (by decide) tw_699 (Or.inl rfl) rfl rfl rfl rfl (Nat.le_of_ble_eq_true rfl) ?_
  dsimp only [List.set]
  rw [oput_oput]
  exact xw_vret rfl dX1_init_20 ⟨rfl, rfl⟩
theorem ct_isWritten {kl va : Nat} {k : Int32} {n : Value} (ho : So M 2 a = some [.ref kl, .ref va]) (hv : So M 9 va = some [.int k, n]) : CT G 0 0 mX1_isWritten [.ref a] M (fun r M1 => r = some (.int (if k = 3 then 0 else 1)) ∧ M1 = M) := by
  refine ct_go (by decide +kernel) (Nat.le_of_ble_eq_true rfl) (L := [(0, .ref a)]) rfl ?_
  refine xw_aload_n dX1_isWritten_0 rfl rfl ?_
  refine xw_get (ci := 2) (k := 1) (v := .ref va) dX1_isWritten_1 ho rfl inX1 (by decide) tw_699 (Or.inl rfl) rfl ?_
  refine xw_get (ci := 9) (k := 0) (v := .int k) dX1_isWritten_4 hv rfl inX8 (by decide) tw_80 (Or.inl rfl) rfl ?_
  refine xw_iconst (v := 3) dX1_isWritten_7 (by decide) ?_
  refine xw_icmp_eq (tgt := 15) dX1_isWritten_8 (by decide) (fun c1 => ?_) (fun c1 => ?_)
  · skip
    refine xw_iconst (v := 0) dX1_isWritten_15 (by decide) ?_
    exact xw_zret rfl rfl dX1_isWritten_16 ⟨by rw [if_pos c1], rfl⟩
  · skip
    refine xw_iconst (v := 1) dX1_isWritten_11 (by decide) ?_
    refine xw_goto (tgt := 16) dX1_isWritten_12 (by decide) ?_
    refine xw_pc (pc2 := 16) rfl ?_
    exact xw_zret rfl rfl dX1_isWritten_16 ⟨by rw [if_neg c1], rfl⟩
theorem ct_Node {k o n p x y : Int32} {f1 f2 f3 f4 f5 f6 f7 f8 : Value} (ho : So M 7 a = some [f1, f2, f3, f4, f5, f6, f7, f8]) : CT G 4 80 mX6_init [.ref a, .int k, .int o, .int n, .int p, .int x, .int y] M (fun r M1 => r = none ∧ M1 = oput (nq (nq M)) 7 a (some [.int k, .int o, .int n, .int p, .int x, .int y, .ref (Sz M), .ref (Sz M + 1)])) := by
  refine ct_go (by decide +kernel) (Nat.le_of_ble_eq_true rfl) (L := [(0, .ref a), (1, .int k), (2, .int o), (3, .int n), (4, .int p), (5, .int x), (6, .int y)]) rfl ?_
  refine xw_aload_n dX6_init_0 rfl rfl ?_
  refine xw_obj dX6_init_1 tw_570 tw_71 tw_72 (Nat.le_of_ble_eq_true rfl) (Nat.le_of_ble_eq_true rfl) ?_
  refine xw_aload_n dX6_init_4 rfl rfl ?_
  refine xw_iload_n dX6_init_5 rfl rfl ?_
  refine xw_putF (ci := 7) (k := 0) tyX6 dX6_init_6 ho rfl inX6 tyX6_ok nmX6 (by decide) tw_573 (Or.inl rfl) rfl rfl rfl rfl rfl rfl (Nat.le_of_ble_eq_true rfl) ?_
  dsimp only [List.set]
  refine xw_aload_n dX6_init_9 rfl rfl ?_
  refine xw_iload_n dX6_init_10 rfl rfl ?_
  refine xw_putF (ci := 7) (k := 1) tyX6 dX6_init_11 (show So _ 7 a = some [.int k, f2, f3, f4, f5, f6, f7, f8] by rw [So_oput, if_pos ⟨rfl, rfl⟩]) rfl inX6 tyX6_ok nmX6 (by decide) tw_575 (Or.inl rfl) rfl rfl rfl rfl rfl rfl (Nat.le_of_ble_eq_true rfl) ?_
  dsimp only [List.set]
  rw [oput_oput]
  refine xw_aload_n dX6_init_14 rfl rfl ?_
  refine xw_iload_n dX6_init_15 rfl rfl ?_
  refine xw_putF (ci := 7) (k := 2) tyX6 dX6_init_16 (show So _ 7 a = some [.int k, .int o, f3, f4, f5, f6, f7, f8] by rw [So_oput, if_pos ⟨rfl, rfl⟩]) rfl inX6 tyX6_ok nmX6 (by decide) tw_577 (Or.inl rfl) rfl rfl rfl rfl rfl rfl (Nat.le_of_ble_eq_true rfl) ?_
  dsimp only [List.set]
  rw [oput_oput]
  refine xw_aload_n dX6_init_19 rfl rfl ?_
  refine xw_iload dX6_init_20 rfl ?_
  refine xw_putF (ci := 7) (k := 3) tyX6 dX6_init_22 (show So _ 7 a = some [.int k, .int o, .int n, f4, f5, f6, f7, f8] by rw [So_oput, if_pos ⟨rfl, rfl⟩]) rfl inX6 tyX6_ok nmX6 (by decide) tw_579 (Or.inl rfl) rfl rfl rfl rfl rfl rfl (Nat.le_of_ble_eq_true rfl) ?_
  dsimp only [List.set]
  rw [oput_oput]
  refine xw_aload_n dX6_init_25 rfl rfl ?_
  refine xw_iload dX6_init_26 rfl ?_
  refine xw_putF (ci := 7) (k := 4) tyX6 dX6_init_28 (show So _ 7 a = some [.int k, .int o, .int n, .int p, f5, f6, f7, f8] by rw [So_oput, if_pos ⟨rfl, rfl⟩]) rfl inX6 tyX6_ok nmX6 (by decide) tw_581 (Or.inl rfl) rfl rfl rfl rfl rfl rfl (Nat.le_of_ble_eq_true rfl) ?_
  dsimp only [List.set]
  rw [oput_oput]
  refine xw_aload_n dX6_init_31 rfl rfl ?_
  refine xw_iload dX6_init_32 rfl ?_
  refine xw_pc (pc2 := 34) rfl ?_
  refine xw_putF (ci := 7) (k := 5) tyX6 dX6_init_34 (show So _ 7 a = some [.int k, .int o, .int n, .int p, .int x, f6, f7, f8] by rw [So_oput, if_pos ⟨rfl, rfl⟩]) rfl inX6 tyX6_ok nmX6 (by decide) tw_583 (Or.inl rfl) rfl rfl rfl rfl rfl rfl (Nat.le_of_ble_eq_true rfl) ?_
  dsimp only [List.set]
  rw [oput_oput]
  refine xw_aload_n dX6_init_37 rfl rfl ?_
  refine xw_wf fun hw => ?_
  refine xw_new (ci := 0) (fs := [.int 0, .null, .int 0]) tyJx4a65c dX6_init_38 rfl inJx4a65c tyJx4a65c_ok (by decide) tw_571 tw_91 tw_43 (fun j hj => by rcases (show j = 0 ∨ j = 1 ∨ j = 2 by omega) with rfl | rfl | rfl <;> rfl) ?_
  refine xw_dup dX6_init_41 rfl ?_
  refine xw_callI (q2 := mJx4a65c_init_da8c8) (n2 := 0) (Bs := []) (rest := [.ref (Sz M), .ref a]) (ct_linit hw) rfl dX6_init_42 rfl rfl tw_572 tw_93 tw_43 tw_94 (by decide +kernel) rfl (Nat.le_of_ble_eq_true rfl) (Nat.le_of_ble_eq_true rfl) (Nat.le_of_ble_eq_true rfl) (fun rr M1 hr hle1 => ?_)
  obtain ⟨rfl, hM1⟩ := hr
  obtain rfl : M1 = oput (nq M) 7 a (some [.int k, .int o, .int n, .int p, .int x, .int y, f7, f8]) := hM1
  refine xw_putF (ci := 7) (k := 6) tyX6 dX6_init_45 (show So _ 7 a = some [.int k, .int o, .int n, .int p, .int x, .int y, f7, f8] by rw [So_oput, if_pos ⟨rfl, rfl⟩]) rfl inX6 tyX6_ok nmX6 (by decide) tw_585 (Or.inl rfl) rfl rfl rfl rfl rfl rfl (Nat.le_of_ble_eq_true rfl) ?_
  dsimp only [List.set]
  rw [oput_oput]
  refine xw_aload_n dX6_init_48 rfl rfl ?_
  refine xw_wf fun hw2 => ?_
  refine xw_new (ci := 0) (fs := [.int 0, .null, .int 0]) tyJx4a65c dX6_init_49 rfl inJx4a65c tyJx4a65c_ok (by decide) tw_571 tw_91 tw_43 (fun j hj => by rcases (show j = 0 ∨ j = 1 ∨ j = 2 by omega) with rfl | rfl | rfl <;> rfl) ?_
  refine xw_dup dX6_init_52 rfl ?_
  refine xw_callI (q2 := mJx4a65c_init_da8c8) (n2 := 0) (Bs := []) (rest := [.ref (Sz M + 1), .ref a]) (ct_linit hw2) rfl dX6_init_53 rfl rfl tw_572 tw_93 tw_43 tw_94 (by decide +kernel) rfl (Nat.le_of_ble_eq_true rfl) (Nat.le_of_ble_eq_true rfl) (Nat.le_of_ble_eq_true rfl) (fun rr M1 hr hle1 => ?_)
  obtain ⟨rfl, hM1⟩ := hr
  obtain rfl : M1 = oput (nq (nq M)) 7 a (some [.int k, .int o, .int n, .int p, .int x, .int y, .ref (Sz M), f8]) := hM1
  refine xw_putF (ci := 7) (k := 7) tyX6 dX6_init_56 (show So _ 7 a = some [.int k, .int o, .int n, .int p, .int x, .int y, .ref (Sz M), f8] by rw [So_oput, if_pos ⟨rfl, rfl⟩]) rfl inX6 tyX6_ok nmX6 (by decide) tw_587 (Or.inl rfl) rfl rfl rfl rfl rfl rfl (Nat.le_of_ble_eq_true rfl) ?_
  dsimp only [List.set]
  rw [oput_oput]
  exact xw_vret rfl dX6_init_59 ⟨rfl, rfl⟩
theorem ct_hasSide {k o n p x y s : Int32} {f7 f8 : Value} (ho : So M 7 a = some [.int k, .int o, .int n, .int p, .int x, .int y, f7, f8]) : CT G 0 0 mX6_hasSide [.ref a, .int s] M (fun r M1 => r = some (.int (if s = 0 ∨ (s = 1 ∧ o = 7) then 1 else 0)) ∧ M1 = M) := by
  refine ct_go (by decide +kernel) (Nat.le_of_ble_eq_true rfl) (L := [(0, .ref a), (1, .int s)]) rfl ?_
  refine xw_iload_n dX6_hasSide_0 rfl rfl ?_
  refine xw_if_eq (tgt := 18) dX6_hasSide_1 (by decide) (fun c1 => ?_) (fun c1 => ?_)
  · skip
    refine xw_iconst (v := 1) dX6_hasSide_18 (by decide) ?_
    refine xw_goto (tgt := 23) dX6_hasSide_19 (by decide) ?_
    exact xw_zret rfl rfl dX6_hasSide_23 ⟨by rw [if_pos (Or.inl c1)], rfl⟩
  · skip
    refine xw_iload_n dX6_hasSide_4 rfl rfl ?_
    refine xw_iconst (v := 1) dX6_hasSide_5 (by decide) ?_
    refine xw_icmp_ne (tgt := 22) dX6_hasSide_6 (by decide) (fun c2 => ?_) (fun c2 => ?_)
    · skip
      refine xw_iconst (v := 0) dX6_hasSide_22 (by decide) ?_
      exact xw_zret rfl rfl dX6_hasSide_23 ⟨by rw [if_neg (fun z => z.elim c1 (fun w => c2 w.1))], rfl⟩
    · skip
      refine xw_aload_n dX6_hasSide_9 rfl rfl ?_
      refine xw_get (ci := 7) (k := 1) (v := .int o) dX6_hasSide_10 ho rfl inX6 (by decide) tw_575 (Or.inl rfl) rfl ?_
      refine xw_bipush (v := 7) dX6_hasSide_13 (by decide) ?_
      refine xw_icmp_ne (tgt := 22) dX6_hasSide_15 (by decide) (fun c3 => ?_) (fun c3 => ?_)
      · skip
        refine xw_iconst (v := 0) dX6_hasSide_22 (by decide) ?_
        refine xw_pc (pc2 := 23) rfl ?_
        exact xw_zret rfl rfl dX6_hasSide_23 ⟨by rw [if_neg (fun z => z.elim c1 (fun w => c3 w.2))], rfl⟩
      · skip
        refine xw_iconst (v := 1) dX6_hasSide_18 (by decide) ?_
        refine xw_goto (tgt := 23) dX6_hasSide_19 (by decide) ?_
        exact xw_zret rfl rfl dX6_hasSide_23 ⟨by rw [if_pos (Or.inr ⟨c2, c3⟩)], rfl⟩
theorem ct_hasPort {k o n p x y s : Int32} {f7 f8 : Value} (ho : So M 7 a = some [.int k, .int o, .int n, .int p, .int x, .int y, f7, f8]) : CT G 0 0 mX6_hasPort [.ref a, .int s] M (fun r M1 => r = some (.int (if ¬ s < 0 ∧ ¬ p ≤ s then 1 else 0)) ∧ M1 = M) := by
  refine ct_go (by decide +kernel) (Nat.le_of_ble_eq_true rfl) (L := [(0, .ref a), (1, .int s)]) rfl ?_
  refine xw_iload_n dX6_hasPort_0 rfl rfl ?_
  refine xw_if_lt (tgt := 16) dX6_hasPort_1 (by decide) (fun c1 => ?_) (fun c1 => ?_)
  · skip
    refine xw_iconst (v := 0) dX6_hasPort_16 (by decide) ?_
    exact xw_zret rfl rfl dX6_hasPort_17 ⟨by rw [if_neg (fun z => z.1 c1)], rfl⟩
  · skip
    refine xw_iload_n dX6_hasPort_4 rfl rfl ?_
    refine xw_aload_n dX6_hasPort_5 rfl rfl ?_
    refine xw_get (ci := 7) (k := 3) (v := .int p) dX6_hasPort_6 ho rfl inX6 (by decide) tw_579 (Or.inl rfl) rfl ?_
    refine xw_icmp_ge (tgt := 16) dX6_hasPort_9 (by decide) (fun c2 => ?_) (fun c2 => ?_)
    · skip
      refine xw_iconst (v := 0) dX6_hasPort_16 (by decide) ?_
      exact xw_zret rfl rfl dX6_hasPort_17 ⟨by rw [if_neg (fun z => z.2 c2)], rfl⟩
    · skip
      refine xw_iconst (v := 1) dX6_hasPort_12 (by decide) ?_
      refine xw_goto (tgt := 17) dX6_hasPort_13 (by decide) ?_
      exact xw_zret rfl rfl dX6_hasPort_17 ⟨by rw [if_pos ⟨c1, c2⟩], rfl⟩
end C1
end
section
/-! THE CLASS: a frame, the frames, constructors of Contexts and Cells -/
/-- what three places hold -/
def v3 (x y z : Option Nat) : Nat → Option Nat := fun j => if j = 0 then x else if j = 1 then y else if j = 2 then z else none
theorem v3_0 (x y z u : Option Nat) : va_up (v3 x y z) 0 u = v3 u y z := by
  funext j; unfold v3 va_up; split <;> simp_all
theorem v3_1 (x y z u : Option Nat) : va_up (v3 x y z) 1 u = v3 x u z := by
  funext j; unfold v3 va_up; by_cases h : j = 1 <;> simp_all
theorem v3_2 (x y z u : Option Nat) : va_up (v3 x y z) 2 u = v3 x y u := by
  funext j; unfold v3 va_up; by_cases h : j = 2 <;> simp_all
theorem v3_none : (fun _ => none) = v3 none none none := by
  funext j; unfold v3; split <;> simp_all
/-- new arrays -/
def ni (M : hx_S) (n : Nat) : hx_S := iput (grow M n 20) (Sz M) (some (n, fun _ => 0))
def nj (M : hx_S) (n : Nat) : hx_S := jput (grow M n 21) (Sz M) (some (n, fun _ => 0))
def nr (M : hx_S) (k n : Nat) (f : Nat → Option Nat) : hx_S := rput (grow M n (22 + k)) k (Sz M) (some (n, f))
section C2
variable {G : hx_G} {M : hx_S} {a : Nat}
theorem ni_oput (n c b : Nat) (x : Option (List Value)) : ni (oput M c b x) n = oput (ni M n) c b x := rfl
theorem nr_oput (k n c b : Nat) (f : Nat → Option Nat) (x : Option (List Value)) : nr (oput M c b x) k n f = oput (nr M k n f) c b x := rfl
theorem ct_Frame {no nd : Nat} {c : Int32} {f1 f2 f3 f4 f5 : Value} {vs : List Value} (ho : So M 5 a = some [f1, f2, f3, f4, f5]) (hv : So M 9 no = some vs) : CT G 1 20 mX4_init [.ref a, .ref no, .ref nd, .int c] M (fun r M1 => r = none ∧ M1 = oput (nr M 1 3 (v3 (some no) (some no) (some no))) 5 a (some [.ref no, .ref (Sz M), .ref nd, .int c, f5])) := by
  refine ct_go (by decide +kernel) (Nat.le_of_ble_eq_true rfl) (L := [(0, .ref a), (1, .ref no), (2, .ref nd), (3, .int c)]) rfl ?_
  refine xw_aload_n dX4_init_0 rfl rfl ?_
  refine xw_obj dX4_init_1 tw_372 tw_71 tw_72 (Nat.le_of_ble_eq_true rfl) (Nat.le_of_ble_eq_true rfl) ?_
  refine xw_aload_n dX4_init_4 rfl rfl ?_
  refine xw_aload_n dX4_init_5 rfl rfl ?_
  refine xw_putF (ci := 5) (k := 0) tyX4 dX4_init_6 ho rfl inX4 tyX4_ok nmX4 (by decide) tw_375 (Or.inl rfl) rfl rfl rfl rfl rfl rfl (Nat.le_of_ble_eq_true rfl) ?_
  dsimp only [List.set]
  refine xw_aload_n dX4_init_9 rfl rfl ?_
  refine xw_iconst (v := 3) dX4_init_10 (by decide) ?_
  refine xw_newR (k := 1) (by decide) tw_373 dX4_init_11 (N := 3) (by decide) (by decide) (by decide) ?_
  simp only [Sz_oput]
  refine Eq.mp (congrArg (fun z => XW G 1 20 mX4_init [.ref a, .ref no, .ref nd, .int c] M _ z _ _ _) (show oput (nr M 1 3 (fun _ => none)) 5 a (some [.ref no, f2, f3, f4, f5]) = _ from rfl)) ?_
  refine xw_putF (ci := 5) (k := 1) tyX4 dX4_init_14 (show So (oput (nr M 1 3 (fun _ => none)) 5 a (some [.ref no, f2, f3, f4, f5])) 5 a = some [.ref no, f2, f3, f4, f5] by rw [So_oput, if_pos ⟨rfl, rfl⟩]) rfl inX4 tyX4_ok nmX4 (by decide) tw_376 (Or.inl rfl) rfl rfl rfl rfl rfl rfl (Nat.le_of_ble_eq_true rfl) ?_
  dsimp only [List.set]
  rw [oput_oput]
  refine xw_aload_n dX4_init_17 rfl rfl ?_
  refine xw_aload_n dX4_init_18 rfl rfl ?_
  refine xw_put (ci := 5) (k := 2) tyX4 dX4_init_19 (show So _ 5 a = some [.ref no, .ref (Sz M), f3, f4, f5] by rw [So_oput, if_pos ⟨rfl, rfl⟩]) rfl inX4 tyX4_ok nmX4 (by decide) tw_378 (Or.inl rfl) rfl rfl rfl rfl (Nat.le_of_ble_eq_true rfl) ?_
  dsimp only [List.set]
  rw [oput_oput]
  refine xw_aload_n dX4_init_22 rfl rfl ?_
  refine xw_iload_n dX4_init_23 rfl rfl ?_
  refine xw_put (ci := 5) (k := 3) tyX4 dX4_init_24 (show So _ 5 a = some [.ref no, .ref (Sz M), .ref nd, f4, f5] by rw [So_oput, if_pos ⟨rfl, rfl⟩]) rfl inX4 tyX4_ok nmX4 (by decide) tw_381 (Or.inl rfl) rfl rfl rfl rfl (Nat.le_of_ble_eq_true rfl) ?_
  dsimp only [List.set]
  rw [oput_oput]
  have hfin : ∀ g, So (oput (nr M 1 3 g) 5 a (some [.ref no, .ref (Sz M), .ref nd, .int c, f5])) 5 a = some [.ref no, .ref (Sz M), .ref nd, .int c, f5] := fun g => by rw [So_oput, if_pos ⟨rfl, rfl⟩]
  have har : ∀ g, Sr (oput (nr M 1 3 g) 5 a (some [.ref no, .ref (Sz M), .ref nd, .int c, f5])) 1 (Sz M) = some (3, g) := fun g => by rw [Sr_oput]; unfold nr; rw [Sr_rput, if_pos ⟨rfl, rfl⟩]
  have hva : ∀ g, So (oput (nr M 1 3 g) 5 a (some [.ref no, .ref (Sz M), .ref nd, .int c, f5])) 9 no = some vs := fun g => by rw [So_oput, if_neg (fun z => absurd z.1 (by decide))]; exact hv
  have hst : ∀ g h, rput (oput (nr M 1 3 g) 5 a (some [.ref no, .ref (Sz M), .ref nd, .int c, f5])) 1 (Sz M) (some (3, h)) = oput (nr M 1 3 h) 5 a (some [.ref no, .ref (Sz M), .ref nd, .int c, f5]) := fun g h => by
    rw [← oput_rput]; unfold nr; rw [rput_rput]
  refine xw_iconst (v := 0) dX4_init_27 (by decide) ?_
  refine xw_istore (L2 := [(4, .int 0), (0, .ref a), (1, .ref no), (2, .ref nd), (3, .int c)]) dX4_init_28 (by decide) rfl ?_
  refine xw_iload dX4_init_30 rfl ?_
  refine xw_iconst (v := 3) dX4_init_32 (by decide) ?_
  refine xw_pc (pc2 := 33) rfl ?_
  refine xw_icmp_ge (tgt := 50) dX4_init_33 (by decide) (fun zz => absurd zz (by decide)) (fun _ => ?_)
  refine xw_aload_n dX4_init_36 rfl rfl ?_
  refine xw_get (ci := 5) (k := 1) (v := .ref (Sz M)) dX4_init_37 (hfin _) rfl inX4 (by decide) tw_376 (Or.inl rfl) rfl ?_
  refine xw_iload dX4_init_40 rfl ?_
  refine xw_aload_n dX4_init_42 rfl rfl ?_
  refine xw_aast dX4_init_43 (har _) (by unfold vp_in; decide) (hva _) rfl (fit_same (ci := 9) rfl rfl) ?_
  rw [hst, show (0 : Int32).toNatClampNeg = 0 by decide]
  refine xw_iinc (v := 0 + 1) (L2 := [(4, .int (0 + 1)), (0, .ref a), (1, .ref no), (2, .ref nd), (3, .int c)]) dX4_init_44 rfl rfl (by decide) rfl ?_
  refine xw_goto (tgt := 30) dX4_init_47 (by decide) ?_
  refine xw_iload dX4_init_30 rfl ?_
  refine xw_iconst (v := 3) dX4_init_32 (by decide) ?_
  refine xw_icmp_ge (tgt := 50) dX4_init_33 (by decide) (fun zz => absurd zz (by decide)) (fun _ => ?_)
  refine xw_aload_n dX4_init_36 rfl rfl ?_
  refine xw_get (ci := 5) (k := 1) (v := .ref (Sz M)) dX4_init_37 (hfin _) rfl inX4 (by decide) tw_376 (Or.inl rfl) rfl ?_
  refine xw_iload dX4_init_40 rfl ?_
  refine xw_aload_n dX4_init_42 rfl rfl ?_
  refine xw_aast dX4_init_43 (har _) (by unfold vp_in; decide) (hva _) rfl (fit_same (ci := 9) rfl rfl) ?_
  rw [hst, show ((0 : Int32) + 1).toNatClampNeg = 1 by decide]
  refine xw_iinc (v := (0 + 1) + 1) (L2 := [(4, .int ((0 + 1) + 1)), (0, .ref a), (1, .ref no), (2, .ref nd), (3, .int c)]) dX4_init_44 rfl rfl (by decide) rfl ?_
  refine xw_goto (tgt := 30) dX4_init_47 (by decide) ?_
  refine xw_iload dX4_init_30 rfl ?_
  refine xw_iconst (v := 3) dX4_init_32 (by decide) ?_
  refine xw_pc (pc2 := 33) rfl ?_
  refine xw_icmp_ge (tgt := 50) dX4_init_33 (by decide) (fun zz => absurd zz (by decide)) (fun _ => ?_)
  refine xw_aload_n dX4_init_36 rfl rfl ?_
  refine xw_get (ci := 5) (k := 1) (v := .ref (Sz M)) dX4_init_37 (hfin _) rfl inX4 (by decide) tw_376 (Or.inl rfl) rfl ?_
  refine xw_iload dX4_init_40 rfl ?_
  refine xw_aload_n dX4_init_42 rfl rfl ?_
  refine xw_aast dX4_init_43 (har _) (by unfold vp_in; decide) (hva _) rfl (fit_same (ci := 9) rfl rfl) ?_
  rw [hst, show ((0 : Int32) + 1 + 1).toNatClampNeg = 2 by decide]
  refine xw_iinc (v := ((0 + 1) + 1) + 1) (L2 := [(4, .int (((0 + 1) + 1) + 1)), (0, .ref a), (1, .ref no), (2, .ref nd), (3, .int c)]) dX4_init_44 rfl rfl (by decide) rfl ?_
  refine xw_goto (tgt := 30) dX4_init_47 (by decide) ?_
  refine xw_iload dX4_init_30 rfl ?_
  refine xw_iconst (v := 3) dX4_init_32 (by decide) ?_
  refine xw_icmp_ge (tgt := 50) dX4_init_33 (by decide) (fun _ => ?_) (fun zz => absurd (by decide) zz)
  exact xw_vret rfl dX4_init_50 ⟨rfl, by rw [v3_none, v3_0, v3_1, v3_2]⟩
theorem ct_holds {va p w : Nat} {u x1 x2 x3 n : Value} {f : Nat → Option Nat} {k : Int32} (ho : So M 5 a = some [u, .ref va, x1, x2, x3]) (hr0 : Sr M 1 va = some (3, f)) (hp : p < 3) (hw : f p = some w) (hv : So M 9 w = some [.int k, n]) : CT G 0 0 mX4_holds [.ref a, .int (nI p)] M (fun r M1 => r = some (.int (if k = 3 then 0 else 1)) ∧ M1 = M) := by
  refine ct_go (by decide +kernel) (Nat.le_of_ble_eq_true rfl) (L := [(0, .ref a), (1, .int (nI p))]) rfl ?_
  refine xw_iload_n dX4_holds_0 rfl rfl ?_
  refine xw_if_lt (tgt := 30) dX4_holds_1 (by decide) (fun zz => absurd zz (nI_pos (by omega))) (fun _ => ?_)
  refine xw_iload_n dX4_holds_4 rfl rfl ?_
  refine xw_aload_n dX4_holds_5 rfl rfl ?_
  refine xw_get (ci := 5) (k := 1) (v := .ref va) dX4_holds_6 ho rfl inX4 (by decide) tw_376 (Or.inl rfl) rfl ?_
  refine xw_rlen dX4_holds_9 hr0 ?_
  refine xw_icmp_ge (tgt := 30) dX4_holds_10 (by decide) (fun zz => absurd zz (nI_ge hp (by decide))) (fun _ => ?_)
  refine xw_aload_n dX4_holds_13 rfl rfl ?_
  refine xw_get (ci := 5) (k := 1) (v := .ref va) dX4_holds_14 ho rfl inX4 (by decide) tw_376 (Or.inl rfl) rfl ?_
  refine xw_iload_n dX4_holds_17 rfl rfl ?_
  refine xw_aald (v := .ref w) dX4_holds_18 hr0 (vp_in_nI hp (by decide)) (by rw [nI_clamp (by omega), hw]; rfl) ?_
  refine xw_get (ci := 9) (k := 0) (v := .int k) dX4_holds_19 hv rfl inX8 (by decide) tw_81 (Or.inl rfl) rfl ?_
  refine xw_iconst (v := 3) dX4_holds_22 (by decide) ?_
  refine xw_pc (pc2 := 23) rfl ?_
  refine xw_icmp_eq (tgt := 30) dX4_holds_23 (by decide) (fun c1 => ?_) (fun c1 => ?_)
  · skip
    refine xw_iconst (v := 0) dX4_holds_30 (by decide) ?_
    exact xw_zret rfl rfl dX4_holds_31 ⟨by rw [if_pos c1], rfl⟩
  · skip
    refine xw_iconst (v := 1) dX4_holds_26 (by decide) ?_
    refine xw_goto (tgt := 31) dX4_holds_27 (by decide) ?_
    exact xw_zret rfl rfl dX4_holds_31 ⟨by rw [if_neg c1], rfl⟩
theorem ct_put {va p w : Nat} {u x1 x2 : Value} {f : Nat → Option Nat} {cm : Int32} {vs : List Value} (ho : So M 5 a = some [u, .ref va, x1, x2, .int cm]) (hr0 : Sr M 1 va = some (3, f)) (hp : p < 3) (hv : So M 9 w = some vs) : CT G 0 0 mX4_put [.ref a, .int (nI p), .ref w] M (fun r M1 => r = none ∧ M1 = oput (rput M 1 va (some (3, va_up f p (some w)))) 5 a (some [u, .ref va, x1, x2, .int (cm + 1)])) := by
  refine ct_go (by decide +kernel) (Nat.le_of_ble_eq_true rfl) (L := [(0, .ref a), (1, .int (nI p)), (2, .ref w)]) rfl ?_
  refine xw_iload_n dX4_put_0 rfl rfl ?_
  refine xw_if_lt (tgt := 30) dX4_put_1 (by decide) (fun zz => absurd zz (nI_pos (by omega))) (fun _ => ?_)
  refine xw_iload_n dX4_put_4 rfl rfl ?_
  refine xw_aload_n dX4_put_5 rfl rfl ?_
  refine xw_get (ci := 5) (k := 1) (v := .ref va) dX4_put_6 ho rfl inX4 (by decide) tw_376 (Or.inl rfl) rfl ?_
  refine xw_rlen dX4_put_9 hr0 ?_
  refine xw_icmp_ge (tgt := 30) dX4_put_10 (by decide) (fun zz => absurd zz (nI_ge hp (by decide))) (fun _ => ?_)
  refine xw_aload_n dX4_put_13 rfl rfl ?_
  refine xw_get (ci := 5) (k := 1) (v := .ref va) dX4_put_14 ho rfl inX4 (by decide) tw_376 (Or.inl rfl) rfl ?_
  refine xw_iload_n dX4_put_17 rfl rfl ?_
  refine xw_aload_n dX4_put_18 rfl rfl ?_
  refine xw_aast dX4_put_19 hr0 (vp_in_nI hp (by decide)) hv rfl (fit_same (ci := 9) rfl rfl) ?_
  rw [nI_clamp (by omega)]
  refine xw_aload_n dX4_put_20 rfl rfl ?_
  refine xw_dup dX4_put_21 rfl ?_
  refine xw_get (ci := 5) (k := 4) (v := .int cm) dX4_put_22 (show So (rput M 1 va _) 5 a = some [u, .ref va, x1, x2, .int cm] from ho) rfl inX4 (by decide) tw_385 (Or.inl rfl) rfl ?_
  refine xw_iconst (v := 1) dX4_put_25 (by decide) ?_
  refine xw_iadd dX4_put_26 ?_
  refine xw_pc (pc2 := 27) rfl ?_
  refine xw_put (ci := 5) (k := 4) tyX4 dX4_put_27 (show So (rput M 1 va _) 5 a = some [u, .ref va, x1, x2, .int cm] from ho) rfl inX4 tyX4_ok nmX4 (by decide) tw_385 (Or.inl rfl) rfl rfl rfl rfl (Nat.le_of_ble_eq_true rfl) ?_
  dsimp only [List.set]
  exact xw_vret rfl dX4_put_30 ⟨rfl, rfl⟩
theorem ct_empty {va no : Nat} {x1 x2 x3 : Value} {x y z : Option Nat} {vs : List Value} (ho : So M 5 a = some [.ref no, .ref va, x1, x2, x3]) (hr0 : Sr M 1 va = some (3, v3 x y z)) (hv : So M 9 no = some vs) : CT G 0 0 mX4_empty [.ref a] M (fun r M1 => r = none ∧ M1 = oput (rput M 1 va (some (3, v3 (some no) (some no) (some no)))) 5 a (some [.ref no, .ref va, x1, x2, .int 0])) := by
  refine ct_go (by decide +kernel) (Nat.le_of_ble_eq_true rfl) (L := [(0, .ref a)]) rfl ?_
  have har : ∀ g, Sr (rput M 1 va (some (3, g))) 1 va = some (3, g) := fun g => by rw [Sr_rput, if_pos ⟨rfl, rfl⟩]
  have hfin : ∀ g, So (rput M 1 va (some (3, g))) 5 a = some [.ref no, .ref va, x1, x2, x3] := fun g => ho
  have hva : ∀ g, So (rput M 1 va (some (3, g))) 9 no = some vs := fun g => hv
  refine xw_iconst (v := 0) dX4_empty_0 (by decide) ?_
  refine xw_istore_n (L2 := [(1, .int 0), (0, .ref a)]) dX4_empty_1 rfl (by decide) rfl ?_
  refine xw_iload_n dX4_empty_2 rfl rfl ?_
  refine xw_aload_n dX4_empty_3 rfl rfl ?_
  refine xw_get (ci := 5) (k := 1) (v := .ref va) dX4_empty_4 ho rfl inX4 (by decide) tw_376 (Or.inl rfl) rfl ?_
  refine xw_rlen dX4_empty_7 hr0 ?_
  refine xw_icmp_ge (tgt := 27) dX4_empty_8 (by decide) (fun zz => absurd zz (by decide)) (fun _ => ?_)
  refine xw_aload_n dX4_empty_11 rfl rfl ?_
  refine xw_get (ci := 5) (k := 1) (v := .ref va) dX4_empty_12 ho rfl inX4 (by decide) tw_376 (Or.inl rfl) rfl ?_
  refine xw_iload_n dX4_empty_15 rfl rfl ?_
  refine xw_aload_n dX4_empty_16 rfl rfl ?_
  refine xw_get (ci := 5) (k := 0) (v := .ref no) dX4_empty_17 ho rfl inX4 (by decide) tw_375 (Or.inl rfl) rfl ?_
  refine xw_aast dX4_empty_20 hr0 (by unfold vp_in; decide) hv rfl (fit_same (ci := 9) rfl rfl) ?_
  rw [show (0 : Int32).toNatClampNeg = 0 by decide, v3_0]
  refine xw_iinc (v := 0 + 1) (L2 := [(1, .int (0 + 1)), (0, .ref a)]) dX4_empty_21 rfl rfl (by decide) rfl ?_
  refine xw_goto (tgt := 2) dX4_empty_24 (by decide) ?_
  refine xw_iload_n dX4_empty_2 rfl rfl ?_
  refine xw_aload_n dX4_empty_3 rfl rfl ?_
  refine xw_get (ci := 5) (k := 1) (v := .ref va) dX4_empty_4 (hfin _) rfl inX4 (by decide) tw_376 (Or.inl rfl) rfl ?_
  refine xw_rlen dX4_empty_7 (har _) ?_
  refine xw_icmp_ge (tgt := 27) dX4_empty_8 (by decide) (fun zz => absurd zz (by decide)) (fun _ => ?_)
  refine xw_aload_n dX4_empty_11 rfl rfl ?_
  refine xw_get (ci := 5) (k := 1) (v := .ref va) dX4_empty_12 (hfin _) rfl inX4 (by decide) tw_376 (Or.inl rfl) rfl ?_
  refine xw_iload_n dX4_empty_15 rfl rfl ?_
  refine xw_aload_n dX4_empty_16 rfl rfl ?_
  refine xw_pc (pc2 := 17) rfl ?_
  refine xw_get (ci := 5) (k := 0) (v := .ref no) dX4_empty_17 (hfin _) rfl inX4 (by decide) tw_375 (Or.inl rfl) rfl ?_
  refine xw_aast dX4_empty_20 (har _) (by unfold vp_in; decide) (hva _) rfl (fit_same (ci := 9) rfl rfl) ?_
  rw [show ((0 : Int32) + 1).toNatClampNeg = 1 by decide, v3_1, rput_rput]
  refine xw_iinc (v := (0 + 1) + 1) (L2 := [(1, .int ((0 + 1) + 1)), (0, .ref a)]) dX4_empty_21 rfl rfl (by decide) rfl ?_
  refine xw_goto (tgt := 2) dX4_empty_24 (by decide) ?_
  refine xw_iload_n dX4_empty_2 rfl rfl ?_
  refine xw_aload_n dX4_empty_3 rfl rfl ?_
  refine xw_get (ci := 5) (k := 1) (v := .ref va) dX4_empty_4 (hfin _) rfl inX4 (by decide) tw_376 (Or.inl rfl) rfl ?_
  refine xw_rlen dX4_empty_7 (har _) ?_
  refine xw_icmp_ge (tgt := 27) dX4_empty_8 (by decide) (fun zz => absurd zz (by decide)) (fun _ => ?_)
  refine xw_aload_n dX4_empty_11 rfl rfl ?_
  refine xw_get (ci := 5) (k := 1) (v := .ref va) dX4_empty_12 (hfin _) rfl inX4 (by decide) tw_376 (Or.inl rfl) rfl ?_
  refine xw_iload_n dX4_empty_15 rfl rfl ?_
  refine xw_aload_n dX4_empty_16 rfl rfl ?_
  refine xw_get (ci := 5) (k := 0) (v := .ref no) dX4_empty_17 (hfin _) rfl inX4 (by decide) tw_375 (Or.inl rfl) rfl ?_
  refine xw_aast dX4_empty_20 (har _) (by unfold vp_in; decide) (hva _) rfl (fit_same (ci := 9) rfl rfl) ?_
  rw [show ((0 : Int32) + 1 + 1).toNatClampNeg = 2 by decide, v3_2, rput_rput]
  refine xw_iinc (v := ((0 + 1) + 1) + 1) (L2 := [(1, .int (((0 + 1) + 1) + 1)), (0, .ref a)]) dX4_empty_21 rfl rfl (by decide) rfl ?_
  refine xw_goto (tgt := 2) dX4_empty_24 (by decide) ?_
  refine xw_iload_n dX4_empty_2 rfl rfl ?_
  refine xw_aload_n dX4_empty_3 rfl rfl ?_
  refine xw_get (ci := 5) (k := 1) (v := .ref va) dX4_empty_4 (hfin _) rfl inX4 (by decide) tw_376 (Or.inl rfl) rfl ?_
  refine xw_rlen dX4_empty_7 (har _) ?_
  refine xw_icmp_ge (tgt := 27) dX4_empty_8 (by decide) (fun _ => ?_) (fun zz => absurd (by decide) zz)
  refine xw_aload_n dX4_empty_27 rfl rfl ?_
  refine xw_iconst (v := 0) dX4_empty_28 (by decide) ?_
  refine xw_pc (pc2 := 29) rfl ?_
  refine xw_put (ci := 5) (k := 4) tyX4 dX4_empty_29 (hfin _) rfl inX4 tyX4_ok nmX4 (by decide) tw_385 (Or.inl rfl) rfl rfl rfl rfl (Nat.le_of_ble_eq_true rfl) ?_
  dsimp only [List.set]
  exact xw_vret rfl dX4_empty_32 ⟨rfl, rfl⟩
theorem ct_Frames {no : Nat} {f1 f2 f3 : Value} (ho : So M 6 a = some [f1, f2, f3]) : CT G 4 80 mX5_init [.ref a, .ref no] M (fun r M1 => r = none ∧ M1 = oput (nq (nq M)) 6 a (some [.ref no, .ref (Sz M), .ref (Sz M + 1)])) := by
  refine ct_go (by decide +kernel) (Nat.le_of_ble_eq_true rfl) (L := [(0, .ref a), (1, .ref no)]) rfl ?_
  refine xw_aload_n dX5_init_0 rfl rfl ?_
  refine xw_obj dX5_init_1 tw_121 tw_71 tw_72 (Nat.le_of_ble_eq_true rfl) (Nat.le_of_ble_eq_true rfl) ?_
  refine xw_aload_n dX5_init_4 rfl rfl ?_
  refine xw_aload_n dX5_init_5 rfl rfl ?_
  refine xw_putF (ci := 6) (k := 0) tyX5 dX5_init_6 ho rfl inX5 tyX5_ok nmX5 (by decide) tw_124 (Or.inl rfl) rfl rfl rfl rfl rfl rfl (Nat.le_of_ble_eq_true rfl) ?_
  dsimp only [List.set]
  refine xw_aload_n dX5_init_9 rfl rfl ?_
  refine xw_wf fun hw => ?_
  refine xw_new (ci := 0) (fs := [.int 0, .null, .int 0]) tyJx4a65c dX5_init_10 rfl inJx4a65c tyJx4a65c_ok (by decide) tw_122 tw_91 tw_43 (fun j hj => by rcases (show j = 0 ∨ j = 1 ∨ j = 2 by omega) with rfl | rfl | rfl <;> rfl) ?_
  refine xw_dup dX5_init_13 rfl ?_
  refine xw_callI (q2 := mJx4a65c_init_da8c8) (n2 := 0) (Bs := []) (rest := [.ref (Sz M), .ref a]) (ct_linit hw) rfl dX5_init_14 rfl rfl tw_123 tw_93 tw_43 tw_94 (by decide +kernel) rfl (Nat.le_of_ble_eq_true rfl) (Nat.le_of_ble_eq_true rfl) (Nat.le_of_ble_eq_true rfl) (fun rr M1 hr hle1 => ?_)
  obtain ⟨rfl, hM1⟩ := hr
  obtain rfl : M1 = oput (nq M) 6 a (some [.ref no, f2, f3]) := hM1
  refine xw_putF (ci := 6) (k := 1) tyX5 dX5_init_17 (show So _ 6 a = some [.ref no, f2, f3] by rw [So_oput, if_pos ⟨rfl, rfl⟩]) rfl inX5 tyX5_ok nmX5 (by decide) tw_125 (Or.inl rfl) rfl rfl rfl rfl rfl rfl (Nat.le_of_ble_eq_true rfl) ?_
  dsimp only [List.set]
  rw [oput_oput]
  refine xw_aload_n dX5_init_20 rfl rfl ?_
  refine xw_wf fun hw2 => ?_
  refine xw_new (ci := 0) (fs := [.int 0, .null, .int 0]) tyJx4a65c dX5_init_21 rfl inJx4a65c tyJx4a65c_ok (by decide) tw_122 tw_91 tw_43 (fun j hj => by rcases (show j = 0 ∨ j = 1 ∨ j = 2 by omega) with rfl | rfl | rfl <;> rfl) ?_
  refine xw_dup dX5_init_24 rfl ?_
  refine xw_callI (q2 := mJx4a65c_init_da8c8) (n2 := 0) (Bs := []) (rest := [.ref (Sz M + 1), .ref a]) (ct_linit hw2) rfl dX5_init_25 rfl rfl tw_123 tw_93 tw_43 tw_94 (by decide +kernel) rfl (Nat.le_of_ble_eq_true rfl) (Nat.le_of_ble_eq_true rfl) (Nat.le_of_ble_eq_true rfl) (fun rr M1 hr hle1 => ?_)
  obtain ⟨rfl, hM1⟩ := hr
  obtain rfl : M1 = oput (nq (nq M)) 6 a (some [.ref no, .ref (Sz M), f3]) := hM1
  refine xw_putF (ci := 6) (k := 2) tyX5 dX5_init_28 (show So _ 6 a = some [.ref no, .ref (Sz M), f3] by rw [So_oput, if_pos ⟨rfl, rfl⟩]) rfl inX5 tyX5_ok nmX5 (by decide) tw_126 (Or.inl rfl) rfl rfl rfl rfl rfl rfl (Nat.le_of_ble_eq_true rfl) ?_
  dsimp only [List.set]
  rw [oput_oput]
  exact xw_vret rfl dX5_init_31 ⟨rfl, rfl⟩
end C2
end
section
/-! THE CLASS: Contexts -/
abbrev T3 : Type := Int32 × Int32 × Int32
/-- the contexts' cells hold L -/
def CX (M : hx_S) (cx co cs cr : Nat) (L : List T3) : Prop :=
  So M 4 cx = some [.ref co, .ref cs, .ref cr, .int (nI L.length)] ∧ (∃ fo fs fr : Nat → Int32, Si M co = some (151, fo) ∧ Si M cs = some (151, fs) ∧ Si M cr = some (151, fr) ∧ ∀ (j : Nat) (e : T3), L[j]? = some e → fo j = e.1 ∧ fs j = e.2.1 ∧ fr j = e.2.2) ∧ 1 ≤ L.length ∧ L.length ≤ 151 ∧ co ≠ cs ∧ co ≠ cr ∧ cs ≠ cr
/-- nothing but the contexts' cells has changed -/
def CXo (M M1 : hx_S) (cx co cs cr : Nat) : Prop := Sz M1 = Sz M ∧ Sl M1 = Sl M ∧ (∀ c b, ¬ (c = 4 ∧ b = cx) → So M1 c b = So M c b) ∧ (∀ b, b ≠ co → b ≠ cs → b ≠ cr → Si M1 b = Si M b) ∧ Sj M1 = Sj M ∧ Sr M1 = Sr M ∧ Sq M1 = Sq M
theorem CXo.rf (M : hx_S) (cx co cs cr : Nat) : CXo M M cx co cs cr := ⟨rfl, rfl, fun _ _ _ => rfl, fun _ _ _ _ => rfl, rfl, rfl, rfl⟩
/-- the first context from j on that is told by t -/
def cfind (L : List T3) (t : T3) : Nat → Nat → Option Nat
  | 0, _ => none
  | k + 1, j => if L[j]? = some t then some j else cfind L t k (j + 1)
/-- the context that is told by t: its number, if there may be one, and the contexts then -/
def cnum (L : List T3) (t : T3) : Option Nat × List T3 := match cfind L t (L.length - 1) 1 with
  | some j => (some j, L)
  | none => if L.length < 151 then (some L.length, L ++ [t]) else (none, L)
def onI (o : Option Nat) : Int32 := match o with
  | some j => nI j
  | none => -1
section CT3
variable {G : hx_G} {M : hx_S} {cx co cs cr : Nat} {L : List T3}
theorem ct_Contexts {a : Nat} {f1 f2 f3 f4 : Value} (ho : So M 4 a = some [f1, f2, f3, f4]) : CT G 1 20 mX3_init [.ref a] M (fun r M1 => r = none ∧ M1 = oput (iput (ni (ni (ni M 151) 151) 151) (Sz M) (some (151, upd (fun _ => 0) 0 (-1)))) 4 a (some [.ref (Sz M), .ref (Sz M + 1), .ref (Sz M + 2), .int 1])) := by
  refine ct_go (by decide +kernel) (Nat.le_of_ble_eq_true rfl) (L := [(0, .ref a)]) rfl ?_
  refine xw_aload_n dX3_init_0 rfl rfl ?_
  refine xw_obj dX3_init_1 tw_139 tw_71 tw_72 (Nat.le_of_ble_eq_true rfl) (Nat.le_of_ble_eq_true rfl) ?_
  refine xw_aload_n dX3_init_4 rfl rfl ?_
  refine xw_sipush (v := 151) dX3_init_5 (by decide) ?_
  refine xw_newI (N := 151) tw_157 dX3_init_8 (by decide) (by decide) (by decide) ?_
  refine xw_putF (ci := 4) (k := 0) tyX3 dX3_init_10 (show So _ 4 a = some [f1, f2, f3, f4] from ho) rfl inX3 tyX3_ok nmX3 (by decide) tw_140 (Or.inl rfl) rfl rfl rfl rfl rfl rfl (Nat.le_of_ble_eq_true rfl) ?_
  dsimp only [List.set]
  refine xw_aload_n dX3_init_13 rfl rfl ?_
  refine xw_sipush (v := 151) dX3_init_14 (by decide) ?_
  refine xw_newI (N := 151) tw_157 dX3_init_17 (by decide) (by decide) (by decide) ?_
  refine xw_putF (ci := 4) (k := 1) tyX3 dX3_init_19 (show So _ 4 a = some [.ref (Sz M), f2, f3, f4] by rw [So_iput, So_grow, So_oput, if_pos ⟨rfl, rfl⟩]) rfl inX3 tyX3_ok nmX3 (by decide) tw_142 (Or.inl rfl) rfl rfl rfl rfl rfl rfl (Nat.le_of_ble_eq_true rfl) ?_
  dsimp only [List.set]
  refine xw_aload_n dX3_init_22 rfl rfl ?_
  refine xw_sipush (v := 151) dX3_init_23 (by decide) ?_
  refine xw_newI (N := 151) tw_157 dX3_init_26 (by decide) (by decide) (by decide) ?_
  refine xw_putF (ci := 4) (k := 2) tyX3 dX3_init_28 (show So _ 4 a = some [.ref (Sz M), .ref (Sz M + 1), f3, f4] by rw [So_iput, So_grow, So_oput, if_pos ⟨rfl, rfl⟩]; rfl) rfl inX3 tyX3_ok nmX3 (by decide) tw_144 (Or.inl rfl) rfl rfl rfl rfl rfl rfl (Nat.le_of_ble_eq_true rfl) ?_
  dsimp only [List.set]
  refine xw_aload_n dX3_init_31 rfl rfl ?_
  refine xw_get (ci := 4) (k := 0) (v := .ref (Sz M)) dX3_init_32 (show So _ 4 a = some [.ref (Sz M), .ref (Sz M + 1), .ref (Sz M + 2), f4] by rw [So_oput, if_pos ⟨rfl, rfl⟩]; rfl) rfl inX3 (by decide) tw_140 (Or.inl rfl) rfl ?_
  refine xw_iconst (v := 0) dX3_init_35 (by decide) ?_
  refine xw_iconst (v := (-1)) dX3_init_36 (by decide) ?_
  have hz : ∀ (x y z : Option (List Value)), oput (iput (grow (oput (iput (grow (oput (iput (grow M 151 20) (Sz M) (some (151, fun _ => 0))) 4 a x) 151 20) (Sz M + 1) (some (151, fun _ => 0))) 4 a y) 151 20) (Sz M + 2) (some (151, fun _ => 0))) 4 a z = oput (oput (oput (ni (ni (ni M 151) 151) 151) 4 a x) 4 a y) 4 a z := fun x y z => rfl
  refine Eq.mp (congrArg (fun w => XW G 1 20 mX3_init [.ref a] M _ w _ _ _) (hz (some [.ref (Sz M), f2, f3, f4]) (some [.ref (Sz M), .ref (Sz M + 1), f3, f4]) (some [.ref (Sz M), .ref (Sz M + 1), .ref (Sz M + 2), f4])).symm) ?_
  rw [oput_oput, oput_oput]
  refine xw_iast dX3_init_37 (show Si (oput (ni (ni (ni M 151) 151) 151) 4 a (some [.ref (Sz M), .ref (Sz M + 1), .ref (Sz M + 2), f4])) (Sz M) = some (151, fun _ => 0) by rw [Si_oput]; unfold ni; simp only [Si_oput, Si_iput, Si_jput, Si_rput, Si_qput, Si_kput, Si_grow, Sz_oput, Sz_iput, Sz_jput, Sz_rput, Sz_qput, Sz_kput, Sz_grow]; rw [if_neg (by omega), if_neg (by omega)]; simp) (by unfold vp_in; decide) ?_
  refine xw_aload_n dX3_init_38 rfl rfl ?_
  refine xw_iconst (v := 1) dX3_init_39 (by decide) ?_
  refine xw_put (ci := 4) (k := 3) tyX3 dX3_init_40 (show So (iput (oput (ni (ni (ni M 151) 151) 151) 4 a (some [.ref (Sz M), .ref (Sz M + 1), .ref (Sz M + 2), f4])) (Sz M) _) 4 a = some [.ref (Sz M), .ref (Sz M + 1), .ref (Sz M + 2), f4] by rw [So_iput, So_oput, if_pos ⟨rfl, rfl⟩]) rfl inX3 tyX3_ok nmX3 (by decide) tw_146 (Or.inl rfl) rfl rfl rfl rfl (Nat.le_of_ble_eq_true rfl) ?_
  dsimp only [List.set]
  exact xw_vret rfl dX3_init_43 ⟨rfl, (oput_oput (iput (ni (ni (ni M 151) 151) 151) (Sz M) (some (151, upd (fun _ => 0) 0 (-1)))) 4 a _ _)⟩
theorem ct_has {c : Int32} (h : CX M cx co cs cr L) : CT G 0 0 mX3_has [.ref cx, .int c] M (fun r M1 => r = some (.int (if ¬ c < 0 ∧ ¬ nI L.length ≤ c then 1 else 0)) ∧ M1 = M) := by
  refine ct_go (by decide +kernel) (Nat.le_of_ble_eq_true rfl) (L := [(0, .ref cx), (1, .int c)]) rfl ?_
  obtain ⟨ho, -, hl1, hl2, -⟩ := h
  refine xw_iload_n dX3_has_0 rfl rfl ?_
  refine xw_pc (pc2 := 1) rfl ?_
  refine xw_if_lt (tgt := 23) dX3_has_1 (by decide) (fun c1 => ?_) (fun c1 => ?_)
  · skip
    refine xw_iconst (v := 0) dX3_has_23 (by decide) ?_
    exact xw_zret rfl rfl dX3_has_24 ⟨by rw [if_neg (fun z => z.1 c1)], rfl⟩
  · skip
    refine xw_iload_n dX3_has_4 rfl rfl ?_
    refine xw_aload_n dX3_has_5 rfl rfl ?_
    refine xw_get (ci := 4) (k := 3) (v := .int (nI L.length)) dX3_has_6 ho rfl inX3 (by decide) tw_146 (Or.inl rfl) rfl ?_
    refine xw_icmp_ge (tgt := 23) dX3_has_9 (by decide) (fun c2 => ?_) (fun c2 => ?_)
    · skip
      refine xw_iconst (v := 0) dX3_has_23 (by decide) ?_
      exact xw_zret rfl rfl dX3_has_24 ⟨by rw [if_neg (fun z => z.2 c2)], rfl⟩
    · obtain ⟨j, hj, rfl, -⟩ := pk_mu c1 c2 (show L.length < 2 ^ 31 by omega)
      refine xw_iload_n dX3_has_12 rfl rfl ?_
      refine xw_sipush (v := 151) dX3_has_13 (by decide) ?_
      refine xw_icmp_ge (tgt := 23) dX3_has_16 (by decide) (fun zz => absurd zz (show ¬ nI 151 ≤ nI j from nI_ge (by omega) (by decide))) (fun _ => ?_)
      refine xw_iconst (v := 1) dX3_has_19 (by decide) ?_
      refine xw_goto (tgt := 24) dX3_has_20 (by decide) ?_
      exact xw_zret rfl rfl dX3_has_24 ⟨by rw [if_pos ⟨c1, c2⟩], rfl⟩
theorem ct_outsideOf {j : Nat} {e : T3} (h : CX M cx co cs cr L) (hj : L[j]? = some e) : CT G 1 21 mX3_outsideOf [.ref cx, .int (nI j)] M (fun r M1 => r = some (.int (if j = 0 then 0 else e.1)) ∧ M1 = M) := by
  refine ct_go (by decide +kernel) (Nat.le_of_ble_eq_true rfl) (L := [(0, .ref cx), (1, .int (nI j))]) rfl ?_
  have hlt : j < L.length := (List.getElem?_eq_some_iff.mp hj).1
  obtain ⟨ho, ⟨fo, fs, fr, h1, h2, h3, h4⟩, hl1, hl2, -⟩ := id h
  have e1 := (h4 j e hj).1
  refine xw_iload_n dX3_outsideOf_0 rfl rfl ?_
  refine xw_if_eq (tgt := 12) dX3_outsideOf_1 (by decide) (fun c1 => ?_) (fun c1 => ?_)
  · have hj0 : j = 0 := (nI_eq (by omega) (by decide)).mp (show nI j = nI 0 from c1)
    refine xw_iconst (v := 0) dX3_outsideOf_12 (by decide) ?_
    refine xw_goto (tgt := 22) dX3_outsideOf_13 (by decide) ?_
    exact xw_iret rfl dX3_outsideOf_22 ⟨by rw [if_pos hj0], rfl⟩
  · have hj0 : ¬ j = 0 := fun z => c1 (by rw [z]; rfl)
    refine xw_aload_n dX3_outsideOf_4 rfl rfl ?_
    refine xw_iload_n dX3_outsideOf_5 rfl rfl ?_
    refine xw_pc (pc2 := 6) rfl ?_
    refine xw_callV (q2 := mX3_has) (n2 := 1) (ci := 4) (Bs := [.int (nI j)]) (rest := []) (ct_has h) dX3_outsideOf_6 rfl (o_at ho) rfl rfl tw_657 tw_460 tw_461 tw_45 tw_462 (by decide +kernel) rfl (Nat.le_of_ble_eq_true rfl) (Nat.le_of_ble_eq_true rfl) (Nat.le_of_ble_eq_true rfl) (fun rr M1 hr hle1 => ?_)
    obtain ⟨rfl, hM1⟩ := hr
    obtain rfl := hM1.symm
    rw [if_pos (show ¬ nI j < 0 ∧ ¬ nI L.length ≤ nI j from ⟨nI_pos (by omega), nI_ge hlt (by omega)⟩)]
    refine xw_if_ne (tgt := 16) dX3_outsideOf_9 (by decide) (fun _ => ?_) (fun zz => absurd zz (by decide))
    refine xw_aload_n dX3_outsideOf_16 rfl rfl ?_
    refine xw_get (ci := 4) (k := 0) (v := .ref co) dX3_outsideOf_17 ho rfl inX3 (by decide) tw_140 (Or.inl rfl) rfl ?_
    refine xw_iload_n dX3_outsideOf_20 rfl rfl ?_
    refine xw_iald dX3_outsideOf_21 h1 (vp_in_nI (show j < 151 by omega) (by decide)) ?_
    rw [nI_clamp (by omega), e1]
    exact xw_iret rfl dX3_outsideOf_22 ⟨by rw [if_neg hj0], rfl⟩
theorem ct_siteOf {j : Nat} {e : T3} (h : CX M cx co cs cr L) (hj : L[j]? = some e) : CT G 1 21 mX3_siteOf [.ref cx, .int (nI j)] M (fun r M1 => r = some (.int e.2.1) ∧ M1 = M) := by
  refine ct_go (by decide +kernel) (Nat.le_of_ble_eq_true rfl) (L := [(0, .ref cx), (1, .int (nI j))]) rfl ?_
  have hlt : j < L.length := (List.getElem?_eq_some_iff.mp hj).1
  obtain ⟨ho, ⟨fo, fs, fr, h1, h2, h3, h4⟩, hl1, hl2, -⟩ := id h
  have e1 := (h4 j e hj).2.1
  refine xw_aload_n dX3_siteOf_0 rfl rfl ?_
  refine xw_iload_n dX3_siteOf_1 rfl rfl ?_
  refine xw_callV (q2 := mX3_has) (n2 := 1) (ci := 4) (Bs := [.int (nI j)]) (rest := []) (ct_has h) dX3_siteOf_2 rfl (o_at ho) rfl rfl tw_657 tw_460 tw_461 tw_45 tw_462 (by decide +kernel) rfl (Nat.le_of_ble_eq_true rfl) (Nat.le_of_ble_eq_true rfl) (Nat.le_of_ble_eq_true rfl) (fun rr M1 hr hle1 => ?_)
  obtain ⟨rfl, hM1⟩ := hr
  obtain rfl := hM1.symm
  rw [if_pos (show ¬ nI j < 0 ∧ ¬ nI L.length ≤ nI j from ⟨nI_pos (by omega), nI_ge hlt (by omega)⟩)]
  refine xw_if_eq (tgt := 17) dX3_siteOf_5 (by decide) (fun zz => absurd zz (by decide)) (fun _ => ?_)
  refine xw_aload_n dX3_siteOf_8 rfl rfl ?_
  refine xw_get (ci := 4) (k := 1) (v := .ref cs) dX3_siteOf_9 ho rfl inX3 (by decide) tw_142 (Or.inl rfl) rfl ?_
  refine xw_iload_n dX3_siteOf_12 rfl rfl ?_
  refine xw_iald dX3_siteOf_13 h2 (vp_in_nI (show j < 151 by omega) (by decide)) ?_
  rw [nI_clamp (by omega), e1]
  refine xw_goto (tgt := 18) dX3_siteOf_14 (by decide) ?_
  exact xw_iret rfl dX3_siteOf_18 ⟨rfl, rfl⟩
theorem ct_numberOf {o s r0 : Int32} (h : CX M cx co cs cr L) : CT G 0 0 mX3_numberOf [.ref cx, .int o, .int s, .int r0] M (fun r M1 => r = some (.int (onI (cnum L (o, s, r0)).1)) ∧ CX M1 cx co cs cr (cnum L (o, s, r0)).2 ∧ CXo M M1 cx co cs cr) := by
  refine ct_go (by decide +kernel) (Nat.le_of_ble_eq_true rfl) (L := [(0, .ref cx), (1, .int o), (2, .int s), (3, .int r0)]) rfl ?_
  obtain ⟨ho, ⟨fo, fs, fr, h1, h2, h3, h4⟩, hl1, hl2, n1, n2, n3⟩ := id h
  have loop : ∀ (k j : Nat), 1 ≤ j → j + k = L.length → cfind L (o, s, r0) (L.length - 1) 1 = cfind L (o, s, r0) k j → XW G 0 0 mX3_numberOf [.ref cx, .int o, .int s, .int r0] M (fun r M1 => r = some (.int (onI (cnum L (o, s, r0)).1)) ∧ CX M1 cx co cs cr (cnum L (o, s, r0)).2 ∧ CXo M M1 cx co cs cr) M 3 [(4, .int (nI j)), (0, .ref cx), (1, .int o), (2, .int s), (3, .int r0)] [] := by
    intro k
    induction k with
    | zero =>
      intro j hj1 hjk hf
      have hc : cnum L (o, s, r0) = if L.length < 151 then (some L.length, L ++ [(o, s, r0)]) else (none, L) := by unfold cnum; rw [hf]; rfl
      refine xw_iload dX3_numberOf_3 rfl ?_
      refine xw_aload_n dX3_numberOf_5 rfl rfl ?_
      refine xw_get (ci := 4) (k := 3) (v := .int (nI L.length)) dX3_numberOf_6 ho rfl inX3 (by decide) tw_146 (Or.inl rfl) rfl ?_
      refine xw_icmp_ge (tgt := 62) dX3_numberOf_9 (by decide) (fun _ => ?_) (fun zz => absurd (nI_le (show L.length ≤ j by omega) (by omega)) zz)
      refine xw_aload_n dX3_numberOf_62 rfl rfl ?_
      refine xw_get (ci := 4) (k := 3) (v := .int (nI L.length)) dX3_numberOf_63 ho rfl inX3 (by decide) tw_146 (Or.inl rfl) rfl ?_
      refine xw_sipush (v := 151) dX3_numberOf_66 (by decide) ?_
      by_cases hf2 : L.length < 151
      · rw [if_pos hf2] at hc
        refine xw_icmp_lt (tgt := 74) dX3_numberOf_69 (by decide) (fun _ => ?_) (fun zz => absurd (show nI L.length < nI 151 from nI_lt hf2 (by decide)) zz)
        refine xw_aload_n dX3_numberOf_74 rfl rfl ?_
        refine xw_get (ci := 4) (k := 3) (v := .int (nI L.length)) dX3_numberOf_75 ho rfl inX3 (by decide) tw_146 (Or.inl rfl) rfl ?_
        refine xw_istore (L2 := [(4, .int (nI L.length)), (0, .ref cx), (1, .int o), (2, .int s), (3, .int r0)]) dX3_numberOf_78 (by decide) rfl ?_
        refine xw_aload_n dX3_numberOf_80 rfl rfl ?_
        refine xw_pc (pc2 := 81) rfl ?_
        refine xw_get (ci := 4) (k := 0) (v := .ref co) dX3_numberOf_81 ho rfl inX3 (by decide) tw_140 (Or.inl rfl) rfl ?_
        refine xw_iload dX3_numberOf_84 rfl ?_
        refine xw_iload_n dX3_numberOf_86 rfl rfl ?_
        refine xw_iast dX3_numberOf_87 h1 (vp_in_nI hf2 (by decide)) ?_
        refine xw_aload_n dX3_numberOf_88 rfl rfl ?_
        refine xw_get (ci := 4) (k := 1) (v := .ref cs) dX3_numberOf_89 (show So (iput M co _) 4 cx = _ from ho) rfl inX3 (by decide) tw_142 (Or.inl rfl) rfl ?_
        refine xw_iload dX3_numberOf_92 rfl ?_
        refine xw_iload_n dX3_numberOf_94 rfl rfl ?_
        refine xw_iast dX3_numberOf_95 (show Si (iput M co _) cs = some (151, fs) by rw [Si_iput, if_neg (fun z => n1 z.symm)]; exact h2) (vp_in_nI hf2 (by decide)) ?_
        refine xw_aload_n dX3_numberOf_96 rfl rfl ?_
        refine xw_get (ci := 4) (k := 2) (v := .ref cr) dX3_numberOf_97 (show So (iput (iput M co _) cs _) 4 cx = _ from ho) rfl inX3 (by decide) tw_144 (Or.inl rfl) rfl ?_
        refine xw_iload dX3_numberOf_100 rfl ?_
        refine xw_iload_n dX3_numberOf_102 rfl rfl ?_
        refine xw_iast dX3_numberOf_103 (show Si (iput (iput M co _) cs _) cr = some (151, fr) by rw [Si_iput, if_neg (fun z => n3 z.symm), Si_iput, if_neg (fun z => n2 z.symm)]; exact h3) (vp_in_nI hf2 (by decide)) ?_
        refine xw_aload_n dX3_numberOf_104 rfl rfl ?_
        refine xw_dup dX3_numberOf_105 rfl ?_
        refine xw_get (ci := 4) (k := 3) (v := .int (nI L.length)) dX3_numberOf_106 (show So (iput (iput (iput M co _) cs _) cr _) 4 cx = _ from ho) rfl inX3 (by decide) tw_146 (Or.inl rfl) rfl ?_
        refine xw_iconst (v := 1) dX3_numberOf_109 (by decide) ?_
        refine xw_iadd dX3_numberOf_110 ?_
        refine xw_put (ci := 4) (k := 3) tyX3 dX3_numberOf_111 (show So (iput (iput (iput M co _) cs _) cr _) 4 cx = _ from ho) rfl inX3 tyX3_ok nmX3 (by decide) tw_146 (Or.inl rfl) rfl rfl rfl rfl (Nat.le_of_ble_eq_true rfl) ?_
        dsimp only [List.set]
        rw [nI_clamp (show L.length < 2 ^ 31 by omega), nI_1]
        refine xw_iload dX3_numberOf_114 rfl ?_
        refine xw_pc (pc2 := 116) rfl ?_
        refine xw_iret rfl dX3_numberOf_116 ⟨by rw [hc]; rfl, ?_, ?_⟩
        · rw [hc]
          refine ⟨by rw [So_oput, if_pos ⟨rfl, rfl⟩]; simp, ⟨upd fo L.length o, upd fs L.length s, upd fr L.length r0, ?_, ?_, ?_, ?_⟩, by simp, by simp; omega, n1, n2, n3⟩
          · rw [Si_oput, Si_iput, if_neg n2, Si_iput, if_neg n1, Si_iput, if_pos rfl]
          · rw [Si_oput, Si_iput, if_neg n3, Si_iput, if_pos rfl]
          · rw [Si_oput, Si_iput, if_pos rfl]
          · intro i e hi
            by_cases hie : i = L.length
            · subst hie
              simp at hi
              subst hi
              exact ⟨pk_us, pk_us, pk_us⟩
            · have hi' : L[i]? = some e := by
                have hb : i < (L ++ [(o, s, r0)]).length := (List.getElem?_eq_some_iff.mp hi).1
                simp at hb
                rw [List.getElem?_append_left (by omega)] at hi
                exact hi
              rw [pk_un hie, pk_un hie, pk_un hie]
              exact h4 i e hi'
        · refine ⟨rfl, rfl, fun c b hcb => ?_, fun b b1 b2 b3 => ?_, rfl, rfl, rfl⟩
          · rw [So_oput, if_neg hcb]; rfl
          · rw [Si_oput, Si_iput, if_neg b3, Si_iput, if_neg b2, Si_iput, if_neg b1]
      · rw [if_neg hf2] at hc
        refine xw_icmp_lt (tgt := 74) dX3_numberOf_69 (by decide) (fun zz => absurd zz (show ¬ nI L.length < nI 151 from nI_nlt (by omega) (by omega))) (fun _ => ?_)
        refine xw_iconst (v := (-1)) dX3_numberOf_72 (by decide) ?_
        exact xw_iret rfl dX3_numberOf_73 ⟨by rw [hc]; rfl, by rw [hc]; exact h, CXo.rf _ _ _ _ _⟩
    | succ k ih =>
      intro j hj1 hjk hf
      have hjl : j < L.length := by omega
      obtain ⟨e, he⟩ : ∃ e, L[j]? = some e := ⟨L[j], List.getElem?_eq_getElem hjl⟩
      obtain ⟨q1, q2, q3⟩ := h4 j e he
      have hnext : ¬ e = (o, s, r0) → XW G 0 0 mX3_numberOf [.ref cx, .int o, .int s, .int r0] M (fun r M1 => r = some (.int (onI (cnum L (o, s, r0)).1)) ∧ CX M1 cx co cs cr (cnum L (o, s, r0)).2 ∧ CXo M M1 cx co cs cr) M 56 [(4, .int (nI j)), (0, .ref cx), (1, .int o), (2, .int s), (3, .int r0)] [] := by
        intro hne
        refine xw_iinc (v := (nI j) + 1) (L2 := [(4, .int ((nI j) + 1)), (0, .ref cx), (1, .int o), (2, .int s), (3, .int r0)]) dX3_numberOf_56 rfl rfl (by decide) rfl ?_
        refine xw_goto (tgt := 3) dX3_numberOf_59 (by decide) ?_
        rw [nI_1]
        refine ih (j + 1) (by omega) (by omega) (hf.trans ?_)
        show (if L[j]? = some (o, s, r0) then some j else cfind L (o, s, r0) k (j + 1)) = _
        rw [if_neg (fun z => hne (Option.some.inj (he.symm.trans z)))]
      have hin : vp_in (nI j) 151 := vp_in_nI (show j < 151 by omega) (by decide)
      refine xw_iload dX3_numberOf_3 rfl ?_
      refine xw_aload_n dX3_numberOf_5 rfl rfl ?_
      refine xw_get (ci := 4) (k := 3) (v := .int (nI L.length)) dX3_numberOf_6 ho rfl inX3 (by decide) tw_146 (Or.inl rfl) rfl ?_
      refine xw_icmp_ge (tgt := 62) dX3_numberOf_9 (by decide) (fun zz => absurd zz (nI_ge hjl (by omega))) (fun _ => ?_)
      refine xw_iload dX3_numberOf_12 rfl ?_
      refine xw_sipush (v := 151) dX3_numberOf_14 (by decide) ?_
      refine xw_icmp_ge (tgt := 62) dX3_numberOf_17 (by decide) (fun zz => absurd zz (show ¬ nI 151 ≤ nI j from nI_ge (by omega) (by decide))) (fun _ => ?_)
      refine xw_aload_n dX3_numberOf_20 rfl rfl ?_
      refine xw_get (ci := 4) (k := 0) (v := .ref co) dX3_numberOf_21 ho rfl inX3 (by decide) tw_140 (Or.inl rfl) rfl ?_
      refine xw_iload dX3_numberOf_24 rfl ?_
      refine xw_iald dX3_numberOf_26 h1 hin ?_
      rw [nI_clamp (by omega), q1]
      refine xw_iload_n dX3_numberOf_27 rfl rfl ?_
      refine xw_icmp_ne (tgt := 56) dX3_numberOf_28 (by decide) (fun c1 => ?_) (fun c1 => ?_)
      · exact xw_pc rfl (hnext (fun z => c1 (by rw [z])))
      · skip
        refine xw_aload_n dX3_numberOf_31 rfl rfl ?_
        refine xw_get (ci := 4) (k := 1) (v := .ref cs) dX3_numberOf_32 ho rfl inX3 (by decide) tw_142 (Or.inl rfl) rfl ?_
        refine xw_iload dX3_numberOf_35 rfl ?_
        refine xw_iald dX3_numberOf_37 h2 hin ?_
        rw [nI_clamp (by omega), q2]
        refine xw_iload_n dX3_numberOf_38 rfl rfl ?_
        refine xw_pc (pc2 := 39) rfl ?_
        refine xw_icmp_ne (tgt := 56) dX3_numberOf_39 (by decide) (fun c2 => ?_) (fun c2 => ?_)
        · exact xw_pc rfl (hnext (fun z => c2 (by rw [z])))
        · skip
          refine xw_aload_n dX3_numberOf_42 rfl rfl ?_
          refine xw_get (ci := 4) (k := 2) (v := .ref cr) dX3_numberOf_43 ho rfl inX3 (by decide) tw_144 (Or.inl rfl) rfl ?_
          refine xw_iload dX3_numberOf_46 rfl ?_
          refine xw_iald dX3_numberOf_48 h3 hin ?_
          rw [nI_clamp (by omega), q3]
          refine xw_iload_n dX3_numberOf_49 rfl rfl ?_
          refine xw_icmp_ne (tgt := 56) dX3_numberOf_50 (by decide) (fun c3 => ?_) (fun c3 => ?_)
          · exact xw_pc rfl (hnext (fun z => c3 (by rw [z])))
          · have hee : e = (o, s, r0) := by rw [← c1, ← c2, ← c3]
            have hc : cnum L (o, s, r0) = (some j, L) := by
              unfold cnum
              rw [hf, show cfind L (o, s, r0) (k + 1) j = some j from if_pos (by rw [he, hee])]
            refine xw_iload dX3_numberOf_53 rfl ?_
            exact xw_iret rfl dX3_numberOf_55 ⟨by rw [hc]; rfl, by rw [hc]; exact h, CXo.rf _ _ _ _ _⟩
  refine xw_iconst (v := 1) dX3_numberOf_0 (by decide) ?_
  refine xw_istore (L2 := [(4, .int 1), (0, .ref cx), (1, .int o), (2, .int s), (3, .int r0)]) dX3_numberOf_1 (by decide) rfl ?_
  have l := loop (L.length - 1) 1 (Nat.le_refl 1) (by omega) rfl
  rw [show nI 1 = 1 from by decide +kernel] at l
  exact xw_pc rfl l
end CT3
end
section
/-! THE CLASS: Contexts, the rest; Cells: made, read -/
section CT4
variable {G : hx_G} {M : hx_S} {cx co cs cr : Nat} {L : List T3}
theorem ct_nextRoundOf {j : Nat} {e : T3} (h : CX M cx co cs cr L) (hj : L[j]? = some e) : CT G 1 24 mX3_nextRoundOf [.ref cx, .int (nI j)] M (fun r M1 => r = some (.int (onI (if j = 0 then some 0 else (cnum L (e.1, e.2.1, e.2.2 + 1)).1))) ∧ CX M1 cx co cs cr (if j = 0 then L else (cnum L (e.1, e.2.1, e.2.2 + 1)).2) ∧ CXo M M1 cx co cs cr) := by
  refine ct_go (by decide +kernel) (Nat.le_of_ble_eq_true rfl) (L := [(0, .ref cx), (1, .int (nI j))]) rfl ?_
  have hlt : j < L.length := (List.getElem?_eq_some_iff.mp hj).1
  obtain ⟨ho, ⟨fo, fs, fr, h1, h2, h3, h4⟩, hl1, hl2, -⟩ := id h
  obtain ⟨e1, e2, e3⟩ := h4 j e hj
  have hin : vp_in (nI j) 151 := vp_in_nI (show j < 151 by omega) (by decide)
  refine xw_iload_n dX3_nextRoundOf_0 rfl rfl ?_
  refine xw_if_eq (tgt := 12) dX3_nextRoundOf_1 (by decide) (fun c1 => ?_) (fun c1 => ?_)
  · have hj0 : j = 0 := (nI_eq (by omega) (by decide)).mp (show nI j = nI 0 from c1)
    refine xw_iconst (v := 0) dX3_nextRoundOf_12 (by decide) ?_
    exact xw_iret rfl dX3_nextRoundOf_13 ⟨by rw [if_pos hj0]; rfl, by rw [if_pos hj0]; exact h, CXo.rf _ _ _ _ _⟩
  · have hj0 : ¬ j = 0 := fun z => c1 (by rw [z]; rfl)
    refine xw_aload_n dX3_nextRoundOf_4 rfl rfl ?_
    refine xw_iload_n dX3_nextRoundOf_5 rfl rfl ?_
    refine xw_callV (q2 := mX3_has) (n2 := 1) (ci := 4) (Bs := [.int (nI j)]) (rest := []) (ct_has h) dX3_nextRoundOf_6 rfl (o_at ho) rfl rfl tw_657 tw_460 tw_461 tw_45 tw_462 (by decide +kernel) rfl (Nat.le_of_ble_eq_true rfl) (Nat.le_of_ble_eq_true rfl) (Nat.le_of_ble_eq_true rfl) (fun rr M1 hr hle1 => ?_)
    obtain ⟨rfl, hM1⟩ := hr
    obtain rfl := hM1.symm
    rw [if_pos (show ¬ nI j < 0 ∧ ¬ nI L.length ≤ nI j from ⟨nI_pos (by omega), nI_ge hlt (by omega)⟩)]
    refine xw_if_ne (tgt := 14) dX3_nextRoundOf_9 (by decide) (fun _ => ?_) (fun zz => absurd zz (by decide))
    refine xw_aload_n dX3_nextRoundOf_14 rfl rfl ?_
    refine xw_aload_n dX3_nextRoundOf_15 rfl rfl ?_
    refine xw_get (ci := 4) (k := 0) (v := .ref co) dX3_nextRoundOf_16 ho rfl inX3 (by decide) tw_140 (Or.inl rfl) rfl ?_
    refine xw_iload_n dX3_nextRoundOf_19 rfl rfl ?_
    refine xw_iald dX3_nextRoundOf_20 h1 hin ?_
    rw [nI_clamp (by omega), e1]
    refine xw_aload_n dX3_nextRoundOf_21 rfl rfl ?_
    refine xw_get (ci := 4) (k := 1) (v := .ref cs) dX3_nextRoundOf_22 ho rfl inX3 (by decide) tw_142 (Or.inl rfl) rfl ?_
    refine xw_iload_n dX3_nextRoundOf_25 rfl rfl ?_
    refine xw_iald dX3_nextRoundOf_26 h2 hin ?_
    rw [nI_clamp (by omega), e2]
    refine xw_aload_n dX3_nextRoundOf_27 rfl rfl ?_
    refine xw_get (ci := 4) (k := 2) (v := .ref cr) dX3_nextRoundOf_28 ho rfl inX3 (by decide) tw_144 (Or.inl rfl) rfl ?_
    refine xw_iload_n dX3_nextRoundOf_31 rfl rfl ?_
    refine xw_pc (pc2 := 32) rfl ?_
    refine xw_iald dX3_nextRoundOf_32 h3 hin ?_
    rw [nI_clamp (by omega), e3]
    refine xw_iconst (v := 1) dX3_nextRoundOf_33 (by decide) ?_
    refine xw_iadd dX3_nextRoundOf_34 ?_
    refine xw_callV (q2 := mX3_numberOf) (n2 := 3) (ci := 4) (Bs := [.int e.1, .int e.2.1, .int (e.2.2 + 1)]) (rest := []) (ct_numberOf h) dX3_nextRoundOf_35 rfl (o_at ho) rfl rfl tw_658 tw_650 tw_651 tw_45 tw_652 (by decide +kernel) rfl (Nat.le_of_ble_eq_true rfl) (Nat.le_of_ble_eq_true rfl) (Nat.le_of_ble_eq_true rfl) (fun rr M1 hr hle1 => ?_)
    obtain ⟨rfl, k2, k3⟩ := hr
    exact xw_iret rfl dX3_nextRoundOf_38 ⟨by rw [if_neg hj0], by rw [if_neg hj0]; exact k2, k3⟩
theorem ct_firstRoundOf {j : Nat} {e : T3} (h : CX M cx co cs cr L) (hj : L[j]? = some e) : CT G 1 24 mX3_firstRoundOf [.ref cx, .int (nI j)] M (fun r M1 => r = some (.int (onI (if j = 0 then some 0 else (cnum L (e.1, e.2.1, 0)).1))) ∧ CX M1 cx co cs cr (if j = 0 then L else (cnum L (e.1, e.2.1, 0)).2) ∧ CXo M M1 cx co cs cr) := by
  refine ct_go (by decide +kernel) (Nat.le_of_ble_eq_true rfl) (L := [(0, .ref cx), (1, .int (nI j))]) rfl ?_
  have hlt : j < L.length := (List.getElem?_eq_some_iff.mp hj).1
  obtain ⟨ho, ⟨fo, fs, fr, h1, h2, h3, h4⟩, hl1, hl2, -⟩ := id h
  obtain ⟨e1, e2, e3⟩ := h4 j e hj
  have hin : vp_in (nI j) 151 := vp_in_nI (show j < 151 by omega) (by decide)
  refine xw_iload_n dX3_firstRoundOf_0 rfl rfl ?_
  refine xw_if_eq (tgt := 12) dX3_firstRoundOf_1 (by decide) (fun c1 => ?_) (fun c1 => ?_)
  · have hj0 : j = 0 := (nI_eq (by omega) (by decide)).mp (show nI j = nI 0 from c1)
    refine xw_iconst (v := 0) dX3_firstRoundOf_12 (by decide) ?_
    exact xw_iret rfl dX3_firstRoundOf_13 ⟨by rw [if_pos hj0]; rfl, by rw [if_pos hj0]; exact h, CXo.rf _ _ _ _ _⟩
  · have hj0 : ¬ j = 0 := fun z => c1 (by rw [z]; rfl)
    refine xw_aload_n dX3_firstRoundOf_4 rfl rfl ?_
    refine xw_iload_n dX3_firstRoundOf_5 rfl rfl ?_
    refine xw_callV (q2 := mX3_has) (n2 := 1) (ci := 4) (Bs := [.int (nI j)]) (rest := []) (ct_has h) dX3_firstRoundOf_6 rfl (o_at ho) rfl rfl tw_657 tw_460 tw_461 tw_45 tw_462 (by decide +kernel) rfl (Nat.le_of_ble_eq_true rfl) (Nat.le_of_ble_eq_true rfl) (Nat.le_of_ble_eq_true rfl) (fun rr M1 hr hle1 => ?_)
    obtain ⟨rfl, hM1⟩ := hr
    obtain rfl := hM1.symm
    rw [if_pos (show ¬ nI j < 0 ∧ ¬ nI L.length ≤ nI j from ⟨nI_pos (by omega), nI_ge hlt (by omega)⟩)]
    refine xw_if_ne (tgt := 14) dX3_firstRoundOf_9 (by decide) (fun _ => ?_) (fun zz => absurd zz (by decide))
    refine xw_aload_n dX3_firstRoundOf_14 rfl rfl ?_
    refine xw_aload_n dX3_firstRoundOf_15 rfl rfl ?_
    refine xw_get (ci := 4) (k := 0) (v := .ref co) dX3_firstRoundOf_16 ho rfl inX3 (by decide) tw_140 (Or.inl rfl) rfl ?_
    refine xw_iload_n dX3_firstRoundOf_19 rfl rfl ?_
    refine xw_iald dX3_firstRoundOf_20 h1 hin ?_
    rw [nI_clamp (by omega), e1]
    refine xw_aload_n dX3_firstRoundOf_21 rfl rfl ?_
    refine xw_get (ci := 4) (k := 1) (v := .ref cs) dX3_firstRoundOf_22 ho rfl inX3 (by decide) tw_142 (Or.inl rfl) rfl ?_
    refine xw_iload_n dX3_firstRoundOf_25 rfl rfl ?_
    refine xw_pc (pc2 := 26) rfl ?_
    refine xw_iald dX3_firstRoundOf_26 h2 hin ?_
    rw [nI_clamp (by omega), e2]
    refine xw_iconst (v := 0) dX3_firstRoundOf_27 (by decide) ?_
    refine xw_callV (q2 := mX3_numberOf) (n2 := 3) (ci := 4) (Bs := [.int e.1, .int e.2.1, .int 0]) (rest := []) (ct_numberOf h) dX3_firstRoundOf_28 rfl (o_at ho) rfl rfl tw_658 tw_650 tw_651 tw_45 tw_652 (by decide +kernel) rfl (Nat.le_of_ble_eq_true rfl) (Nat.le_of_ble_eq_true rfl) (Nat.le_of_ble_eq_true rfl) (fun rr M1 hr hle1 => ?_)
    obtain ⟨rfl, k2, k3⟩ := hr
    exact xw_iret rfl dX3_firstRoundOf_31 ⟨by rw [if_neg hj0], by rw [if_neg hj0]; exact k2, k3⟩
theorem ct_cforget (h : CX M cx co cs cr L) : CT G 0 0 mX3_forgetAll [.ref cx] M (fun r M1 => r = none ∧ CX M1 cx co cs cr (L.take 1) ∧ CXo M M1 cx co cs cr) := by
  refine ct_go (by decide +kernel) (Nat.le_of_ble_eq_true rfl) (L := [(0, .ref cx)]) rfl ?_
  obtain ⟨ho, ⟨fo, fs, fr, h1, h2, h3, h4⟩, hl1, hl2, n1, n2, n3⟩ := id h
  refine xw_aload_n dX3_forgetAll_0 rfl rfl ?_
  refine xw_iconst (v := 1) dX3_forgetAll_1 (by decide) ?_
  refine xw_put (ci := 4) (k := 3) tyX3 dX3_forgetAll_2 ho rfl inX3 tyX3_ok nmX3 (by decide) tw_146 (Or.inl rfl) rfl rfl rfl rfl (Nat.le_of_ble_eq_true rfl) ?_
  dsimp only [List.set]
  have hlen : (L.take 1).length = 1 := by rw [List.length_take]; omega
  refine xw_vret rfl dX3_forgetAll_5 ⟨rfl, ⟨by rw [So_oput, if_pos ⟨rfl, rfl⟩, hlen]; rfl, ⟨fo, fs, fr, h1, h2, h3, fun i e hi => h4 i e ?_⟩, by rw [hlen]; decide, by rw [hlen]; decide, n1, n2, n3⟩, ⟨rfl, rfl, fun c b hcb => by rw [So_oput, if_neg hcb], fun _ _ _ _ => rfl, rfl, rfl, rfl⟩⟩
  rw [List.getElem?_take] at hi
  split at hi
  · exact hi
  · cases hi
theorem ct_Cells {a nv : Nat} {f1 f2 f3 : Value} (ho : So M 3 a = some [f1, f2, f3, .int 0]) : CT G 1 20 mX2_init [.ref a, .ref nv] M (fun r M1 => r = none ∧ M1 = oput (ni (nr M 0 320 (fun _ => none)) 40) 3 a (some [.ref nv, .ref (Sz M), .ref (Sz M + 1), .int 0])) := by
  refine ct_go (by decide +kernel) (Nat.le_of_ble_eq_true rfl) (L := [(0, .ref a), (1, .ref nv)]) rfl ?_
  refine xw_aload_n dX2_init_0 rfl rfl ?_
  refine xw_obj dX2_init_1 tw_163 tw_71 tw_72 (Nat.le_of_ble_eq_true rfl) (Nat.le_of_ble_eq_true rfl) ?_
  refine xw_aload_n dX2_init_4 rfl rfl ?_
  refine xw_aload_n dX2_init_5 rfl rfl ?_
  refine xw_putF (ci := 3) (k := 0) tyX2 dX2_init_6 ho rfl inX2 tyX2_ok nmX2 (by decide) tw_166 (Or.inl rfl) rfl rfl rfl rfl rfl rfl (Nat.le_of_ble_eq_true rfl) ?_
  dsimp only [List.set]
  refine xw_aload_n dX2_init_9 rfl rfl ?_
  refine xw_sipush (v := 320) dX2_init_10 (by decide) ?_
  refine xw_newR (k := 0) (by decide) tw_164 dX2_init_13 (N := 320) (by decide) (by decide) (by decide) ?_
  simp only [Sz_oput]
  refine Eq.mp (congrArg (fun z => XW G 1 20 mX2_init [.ref a, .ref nv] M _ z _ _ _) (show oput (nr M 0 320 (fun _ => none)) 3 a (some [.ref nv, f2, f3, .int 0]) = _ from rfl)) ?_
  refine xw_putF (ci := 3) (k := 1) tyX2 dX2_init_16 (show So (oput (nr M 0 320 (fun _ => none)) 3 a (some [.ref nv, f2, f3, .int 0])) 3 a = some [.ref nv, f2, f3, .int 0] by rw [So_oput, if_pos ⟨rfl, rfl⟩]) rfl inX2 tyX2_ok nmX2 (by decide) tw_167 (Or.inl rfl) rfl rfl rfl rfl rfl rfl (Nat.le_of_ble_eq_true rfl) ?_
  dsimp only [List.set]
  rw [oput_oput]
  refine xw_aload_n dX2_init_19 rfl rfl ?_
  refine xw_bipush (v := 40) dX2_init_20 (by decide) ?_
  refine xw_newI (N := 40) tw_157 dX2_init_22 (by decide) (by decide) (by decide) ?_
  simp only [Sz_oput]
  refine Eq.mp (congrArg (fun z => XW G 1 20 mX2_init [.ref a, .ref nv] M _ z _ _ _) (show oput (ni (nr M 0 320 (fun _ => none)) 40) 3 a (some [.ref nv, .ref (Sz M), f3, .int 0]) = _ from rfl)) ?_
  refine xw_putF (ci := 3) (k := 2) tyX2 dX2_init_24 (show So (oput (ni (nr M 0 320 (fun _ => none)) 40) 3 a (some [.ref nv, .ref (Sz M), f3, .int 0])) 3 a = some [.ref nv, .ref (Sz M), f3, .int 0] by rw [So_oput, if_pos ⟨rfl, rfl⟩]) rfl inX2 tyX2_ok nmX2 (by decide) tw_168 (Or.inl rfl) rfl rfl rfl rfl rfl rfl (Nat.le_of_ble_eq_true rfl) ?_
  dsimp only [List.set]
  rw [oput_oput]
  exact xw_vret rfl dX2_init_27 ⟨rfl, rfl⟩
end CT4
end
section
/-! TUPLES: the state of the machine of tokens; the ghosts of frames and cells -/
abbrev V2 : Type := Int32 × Int64
abbrev hs_S : Type := (List (Nat × Int32 × List (Nat × Nat × Nat))) × (Nat) × (List T3) × (Nat) × (Nat → Nat) × (Nat → Option V2) × (Nat → Nat → Nat → Option V2) × (Nat) × (List (Nat × Nat × (Nat → Option V2))) × (List (Nat × Nat × Nat)) × (List (V2 × Nat)) × (Nat) × (Nat) × (Nat)
def sN (σ : hs_S) : List (Nat × Int32 × List (Nat × Nat × Nat)) := σ.1
def sB (σ : hs_S) : Nat := σ.2.1
def sC (σ : hs_S) : List T3 := σ.2.2.1
def sA (σ : hs_S) : Nat := σ.2.2.2.1
def sLe (σ : hs_S) : Nat → Nat := σ.2.2.2.2.1
def sCe (σ : hs_S) : Nat → Option V2 := σ.2.2.2.2.2.1
def sT (σ : hs_S) : Nat → Nat → Nat → Option V2 := σ.2.2.2.2.2.2.1
def sNt (σ : hs_S) : Nat := σ.2.2.2.2.2.2.2.1
def sR (σ : hs_S) : List (Nat × Nat × (Nat → Option V2)) := σ.2.2.2.2.2.2.2.2.1
def sK (σ : hs_S) : List (Nat × Nat × Nat) := σ.2.2.2.2.2.2.2.2.2.1
def sRs (σ : hs_S) : List (V2 × Nat) := σ.2.2.2.2.2.2.2.2.2.2.1
def sTr (σ : hs_S) : Nat := σ.2.2.2.2.2.2.2.2.2.2.2.1
def sW (σ : hs_S) : Nat := σ.2.2.2.2.2.2.2.2.2.2.2.2.1
def sAl (σ : hs_S) : Nat := σ.2.2.2.2.2.2.2.2.2.2.2.2.2
def uN (σ : hs_S) (x : List (Nat × Int32 × List (Nat × Nat × Nat))) : hs_S := (x, sB σ, sC σ, sA σ, sLe σ, sCe σ, sT σ, sNt σ, sR σ, sK σ, sRs σ, sTr σ, sW σ, sAl σ)
def uB (σ : hs_S) (x : Nat) : hs_S := (sN σ, x, sC σ, sA σ, sLe σ, sCe σ, sT σ, sNt σ, sR σ, sK σ, sRs σ, sTr σ, sW σ, sAl σ)
def uC (σ : hs_S) (x : List T3) : hs_S := (sN σ, sB σ, x, sA σ, sLe σ, sCe σ, sT σ, sNt σ, sR σ, sK σ, sRs σ, sTr σ, sW σ, sAl σ)
def uA (σ : hs_S) (x : Nat) : hs_S := (sN σ, sB σ, sC σ, x, sLe σ, sCe σ, sT σ, sNt σ, sR σ, sK σ, sRs σ, sTr σ, sW σ, sAl σ)
def uLe (σ : hs_S) (x : Nat → Nat) : hs_S := (sN σ, sB σ, sC σ, sA σ, x, sCe σ, sT σ, sNt σ, sR σ, sK σ, sRs σ, sTr σ, sW σ, sAl σ)
def uCe (σ : hs_S) (x : Nat → Option V2) : hs_S := (sN σ, sB σ, sC σ, sA σ, sLe σ, x, sT σ, sNt σ, sR σ, sK σ, sRs σ, sTr σ, sW σ, sAl σ)
def uT (σ : hs_S) (x : Nat → Nat → Nat → Option V2) : hs_S := (sN σ, sB σ, sC σ, sA σ, sLe σ, sCe σ, x, sNt σ, sR σ, sK σ, sRs σ, sTr σ, sW σ, sAl σ)
def uNt (σ : hs_S) (x : Nat) : hs_S := (sN σ, sB σ, sC σ, sA σ, sLe σ, sCe σ, sT σ, x, sR σ, sK σ, sRs σ, sTr σ, sW σ, sAl σ)
def uR (σ : hs_S) (x : List (Nat × Nat × (Nat → Option V2))) : hs_S := (sN σ, sB σ, sC σ, sA σ, sLe σ, sCe σ, sT σ, sNt σ, x, sK σ, sRs σ, sTr σ, sW σ, sAl σ)
def uK (σ : hs_S) (x : List (Nat × Nat × Nat)) : hs_S := (sN σ, sB σ, sC σ, sA σ, sLe σ, sCe σ, sT σ, sNt σ, sR σ, x, sRs σ, sTr σ, sW σ, sAl σ)
def uRs (σ : hs_S) (x : List (V2 × Nat)) : hs_S := (sN σ, sB σ, sC σ, sA σ, sLe σ, sCe σ, sT σ, sNt σ, sR σ, sK σ, x, sTr σ, sW σ, sAl σ)
def uTr (σ : hs_S) (x : Nat) : hs_S := (sN σ, sB σ, sC σ, sA σ, sLe σ, sCe σ, sT σ, sNt σ, sR σ, sK σ, sRs σ, x, sW σ, sAl σ)
def uW (σ : hs_S) (x : Nat) : hs_S := (sN σ, sB σ, sC σ, sA σ, sLe σ, sCe σ, sT σ, sNt σ, sR σ, sK σ, sRs σ, sTr σ, x, sAl σ)
def uAl (σ : hs_S) (x : Nat) : hs_S := (sN σ, sB σ, sC σ, sA σ, sLe σ, sCe σ, sT σ, sNt σ, sR σ, sK σ, sRs σ, sTr σ, sW σ, x)
theorem sN_uN (σ : hs_S) (x : List (Nat × Int32 × List (Nat × Nat × Nat))) : sN (uN σ x) = x := rfl
theorem sB_uN (σ : hs_S) (x : List (Nat × Int32 × List (Nat × Nat × Nat))) : sB (uN σ x) = sB σ := rfl
theorem sC_uN (σ : hs_S) (x : List (Nat × Int32 × List (Nat × Nat × Nat))) : sC (uN σ x) = sC σ := rfl
theorem sA_uN (σ : hs_S) (x : List (Nat × Int32 × List (Nat × Nat × Nat))) : sA (uN σ x) = sA σ := rfl
theorem sLe_uN (σ : hs_S) (x : List (Nat × Int32 × List (Nat × Nat × Nat))) : sLe (uN σ x) = sLe σ := rfl
theorem sCe_uN (σ : hs_S) (x : List (Nat × Int32 × List (Nat × Nat × Nat))) : sCe (uN σ x) = sCe σ := rfl
theorem sT_uN (σ : hs_S) (x : List (Nat × Int32 × List (Nat × Nat × Nat))) : sT (uN σ x) = sT σ := rfl
theorem sNt_uN (σ : hs_S) (x : List (Nat × Int32 × List (Nat × Nat × Nat))) : sNt (uN σ x) = sNt σ := rfl
theorem sR_uN (σ : hs_S) (x : List (Nat × Int32 × List (Nat × Nat × Nat))) : sR (uN σ x) = sR σ := rfl
theorem sK_uN (σ : hs_S) (x : List (Nat × Int32 × List (Nat × Nat × Nat))) : sK (uN σ x) = sK σ := rfl
theorem sRs_uN (σ : hs_S) (x : List (Nat × Int32 × List (Nat × Nat × Nat))) : sRs (uN σ x) = sRs σ := rfl
theorem sTr_uN (σ : hs_S) (x : List (Nat × Int32 × List (Nat × Nat × Nat))) : sTr (uN σ x) = sTr σ := rfl
theorem sW_uN (σ : hs_S) (x : List (Nat × Int32 × List (Nat × Nat × Nat))) : sW (uN σ x) = sW σ := rfl
theorem sAl_uN (σ : hs_S) (x : List (Nat × Int32 × List (Nat × Nat × Nat))) : sAl (uN σ x) = sAl σ := rfl
theorem sN_uB (σ : hs_S) (x : Nat) : sN (uB σ x) = sN σ := rfl
theorem sB_uB (σ : hs_S) (x : Nat) : sB (uB σ x) = x := rfl
theorem sC_uB (σ : hs_S) (x : Nat) : sC (uB σ x) = sC σ := rfl
theorem sA_uB (σ : hs_S) (x : Nat) : sA (uB σ x) = sA σ := rfl
theorem sLe_uB (σ : hs_S) (x : Nat) : sLe (uB σ x) = sLe σ := rfl
theorem sCe_uB (σ : hs_S) (x : Nat) : sCe (uB σ x) = sCe σ := rfl
theorem sT_uB (σ : hs_S) (x : Nat) : sT (uB σ x) = sT σ := rfl
theorem sNt_uB (σ : hs_S) (x : Nat) : sNt (uB σ x) = sNt σ := rfl
theorem sR_uB (σ : hs_S) (x : Nat) : sR (uB σ x) = sR σ := rfl
theorem sK_uB (σ : hs_S) (x : Nat) : sK (uB σ x) = sK σ := rfl
theorem sRs_uB (σ : hs_S) (x : Nat) : sRs (uB σ x) = sRs σ := rfl
theorem sTr_uB (σ : hs_S) (x : Nat) : sTr (uB σ x) = sTr σ := rfl
theorem sW_uB (σ : hs_S) (x : Nat) : sW (uB σ x) = sW σ := rfl
theorem sAl_uB (σ : hs_S) (x : Nat) : sAl (uB σ x) = sAl σ := rfl
theorem sN_uC (σ : hs_S) (x : List T3) : sN (uC σ x) = sN σ := rfl
theorem sB_uC (σ : hs_S) (x : List T3) : sB (uC σ x) = sB σ := rfl
theorem sC_uC (σ : hs_S) (x : List T3) : sC (uC σ x) = x := rfl
theorem sA_uC (σ : hs_S) (x : List T3) : sA (uC σ x) = sA σ := rfl
theorem sLe_uC (σ : hs_S) (x : List T3) : sLe (uC σ x) = sLe σ := rfl
theorem sCe_uC (σ : hs_S) (x : List T3) : sCe (uC σ x) = sCe σ := rfl
theorem sT_uC (σ : hs_S) (x : List T3) : sT (uC σ x) = sT σ := rfl
theorem sNt_uC (σ : hs_S) (x : List T3) : sNt (uC σ x) = sNt σ := rfl
theorem sR_uC (σ : hs_S) (x : List T3) : sR (uC σ x) = sR σ := rfl
theorem sK_uC (σ : hs_S) (x : List T3) : sK (uC σ x) = sK σ := rfl
theorem sRs_uC (σ : hs_S) (x : List T3) : sRs (uC σ x) = sRs σ := rfl
theorem sTr_uC (σ : hs_S) (x : List T3) : sTr (uC σ x) = sTr σ := rfl
theorem sW_uC (σ : hs_S) (x : List T3) : sW (uC σ x) = sW σ := rfl
theorem sAl_uC (σ : hs_S) (x : List T3) : sAl (uC σ x) = sAl σ := rfl
theorem sN_uA (σ : hs_S) (x : Nat) : sN (uA σ x) = sN σ := rfl
theorem sB_uA (σ : hs_S) (x : Nat) : sB (uA σ x) = sB σ := rfl
theorem sC_uA (σ : hs_S) (x : Nat) : sC (uA σ x) = sC σ := rfl
theorem sA_uA (σ : hs_S) (x : Nat) : sA (uA σ x) = x := rfl
theorem sLe_uA (σ : hs_S) (x : Nat) : sLe (uA σ x) = sLe σ := rfl
theorem sCe_uA (σ : hs_S) (x : Nat) : sCe (uA σ x) = sCe σ := rfl
theorem sT_uA (σ : hs_S) (x : Nat) : sT (uA σ x) = sT σ := rfl
theorem sNt_uA (σ : hs_S) (x : Nat) : sNt (uA σ x) = sNt σ := rfl
theorem sR_uA (σ : hs_S) (x : Nat) : sR (uA σ x) = sR σ := rfl
theorem sK_uA (σ : hs_S) (x : Nat) : sK (uA σ x) = sK σ := rfl
theorem sRs_uA (σ : hs_S) (x : Nat) : sRs (uA σ x) = sRs σ := rfl
theorem sTr_uA (σ : hs_S) (x : Nat) : sTr (uA σ x) = sTr σ := rfl
theorem sW_uA (σ : hs_S) (x : Nat) : sW (uA σ x) = sW σ := rfl
theorem sAl_uA (σ : hs_S) (x : Nat) : sAl (uA σ x) = sAl σ := rfl
theorem sN_uLe (σ : hs_S) (x : Nat → Nat) : sN (uLe σ x) = sN σ := rfl
theorem sB_uLe (σ : hs_S) (x : Nat → Nat) : sB (uLe σ x) = sB σ := rfl
theorem sC_uLe (σ : hs_S) (x : Nat → Nat) : sC (uLe σ x) = sC σ := rfl
theorem sA_uLe (σ : hs_S) (x : Nat → Nat) : sA (uLe σ x) = sA σ := rfl
theorem sLe_uLe (σ : hs_S) (x : Nat → Nat) : sLe (uLe σ x) = x := rfl
theorem sCe_uLe (σ : hs_S) (x : Nat → Nat) : sCe (uLe σ x) = sCe σ := rfl
theorem sT_uLe (σ : hs_S) (x : Nat → Nat) : sT (uLe σ x) = sT σ := rfl
theorem sNt_uLe (σ : hs_S) (x : Nat → Nat) : sNt (uLe σ x) = sNt σ := rfl
theorem sR_uLe (σ : hs_S) (x : Nat → Nat) : sR (uLe σ x) = sR σ := rfl
theorem sK_uLe (σ : hs_S) (x : Nat → Nat) : sK (uLe σ x) = sK σ := rfl
theorem sRs_uLe (σ : hs_S) (x : Nat → Nat) : sRs (uLe σ x) = sRs σ := rfl
theorem sTr_uLe (σ : hs_S) (x : Nat → Nat) : sTr (uLe σ x) = sTr σ := rfl
theorem sW_uLe (σ : hs_S) (x : Nat → Nat) : sW (uLe σ x) = sW σ := rfl
theorem sAl_uLe (σ : hs_S) (x : Nat → Nat) : sAl (uLe σ x) = sAl σ := rfl
theorem sN_uCe (σ : hs_S) (x : Nat → Option V2) : sN (uCe σ x) = sN σ := rfl
theorem sB_uCe (σ : hs_S) (x : Nat → Option V2) : sB (uCe σ x) = sB σ := rfl
theorem sC_uCe (σ : hs_S) (x : Nat → Option V2) : sC (uCe σ x) = sC σ := rfl
theorem sA_uCe (σ : hs_S) (x : Nat → Option V2) : sA (uCe σ x) = sA σ := rfl
theorem sLe_uCe (σ : hs_S) (x : Nat → Option V2) : sLe (uCe σ x) = sLe σ := rfl
theorem sCe_uCe (σ : hs_S) (x : Nat → Option V2) : sCe (uCe σ x) = x := rfl
theorem sT_uCe (σ : hs_S) (x : Nat → Option V2) : sT (uCe σ x) = sT σ := rfl
theorem sNt_uCe (σ : hs_S) (x : Nat → Option V2) : sNt (uCe σ x) = sNt σ := rfl
theorem sR_uCe (σ : hs_S) (x : Nat → Option V2) : sR (uCe σ x) = sR σ := rfl
theorem sK_uCe (σ : hs_S) (x : Nat → Option V2) : sK (uCe σ x) = sK σ := rfl
theorem sRs_uCe (σ : hs_S) (x : Nat → Option V2) : sRs (uCe σ x) = sRs σ := rfl
theorem sTr_uCe (σ : hs_S) (x : Nat → Option V2) : sTr (uCe σ x) = sTr σ := rfl
theorem sW_uCe (σ : hs_S) (x : Nat → Option V2) : sW (uCe σ x) = sW σ := rfl
theorem sAl_uCe (σ : hs_S) (x : Nat → Option V2) : sAl (uCe σ x) = sAl σ := rfl
theorem sN_uT (σ : hs_S) (x : Nat → Nat → Nat → Option V2) : sN (uT σ x) = sN σ := rfl
theorem sB_uT (σ : hs_S) (x : Nat → Nat → Nat → Option V2) : sB (uT σ x) = sB σ := rfl
theorem sC_uT (σ : hs_S) (x : Nat → Nat → Nat → Option V2) : sC (uT σ x) = sC σ := rfl
theorem sA_uT (σ : hs_S) (x : Nat → Nat → Nat → Option V2) : sA (uT σ x) = sA σ := rfl
theorem sLe_uT (σ : hs_S) (x : Nat → Nat → Nat → Option V2) : sLe (uT σ x) = sLe σ := rfl
theorem sCe_uT (σ : hs_S) (x : Nat → Nat → Nat → Option V2) : sCe (uT σ x) = sCe σ := rfl
theorem sT_uT (σ : hs_S) (x : Nat → Nat → Nat → Option V2) : sT (uT σ x) = x := rfl
theorem sNt_uT (σ : hs_S) (x : Nat → Nat → Nat → Option V2) : sNt (uT σ x) = sNt σ := rfl
theorem sR_uT (σ : hs_S) (x : Nat → Nat → Nat → Option V2) : sR (uT σ x) = sR σ := rfl
theorem sK_uT (σ : hs_S) (x : Nat → Nat → Nat → Option V2) : sK (uT σ x) = sK σ := rfl
theorem sRs_uT (σ : hs_S) (x : Nat → Nat → Nat → Option V2) : sRs (uT σ x) = sRs σ := rfl
theorem sTr_uT (σ : hs_S) (x : Nat → Nat → Nat → Option V2) : sTr (uT σ x) = sTr σ := rfl
theorem sW_uT (σ : hs_S) (x : Nat → Nat → Nat → Option V2) : sW (uT σ x) = sW σ := rfl
theorem sAl_uT (σ : hs_S) (x : Nat → Nat → Nat → Option V2) : sAl (uT σ x) = sAl σ := rfl
theorem sN_uNt (σ : hs_S) (x : Nat) : sN (uNt σ x) = sN σ := rfl
theorem sB_uNt (σ : hs_S) (x : Nat) : sB (uNt σ x) = sB σ := rfl
theorem sC_uNt (σ : hs_S) (x : Nat) : sC (uNt σ x) = sC σ := rfl
theorem sA_uNt (σ : hs_S) (x : Nat) : sA (uNt σ x) = sA σ := rfl
theorem sLe_uNt (σ : hs_S) (x : Nat) : sLe (uNt σ x) = sLe σ := rfl
theorem sCe_uNt (σ : hs_S) (x : Nat) : sCe (uNt σ x) = sCe σ := rfl
theorem sT_uNt (σ : hs_S) (x : Nat) : sT (uNt σ x) = sT σ := rfl
theorem sNt_uNt (σ : hs_S) (x : Nat) : sNt (uNt σ x) = x := rfl
theorem sR_uNt (σ : hs_S) (x : Nat) : sR (uNt σ x) = sR σ := rfl
theorem sK_uNt (σ : hs_S) (x : Nat) : sK (uNt σ x) = sK σ := rfl
theorem sRs_uNt (σ : hs_S) (x : Nat) : sRs (uNt σ x) = sRs σ := rfl
theorem sTr_uNt (σ : hs_S) (x : Nat) : sTr (uNt σ x) = sTr σ := rfl
theorem sW_uNt (σ : hs_S) (x : Nat) : sW (uNt σ x) = sW σ := rfl
theorem sAl_uNt (σ : hs_S) (x : Nat) : sAl (uNt σ x) = sAl σ := rfl
theorem sN_uR (σ : hs_S) (x : List (Nat × Nat × (Nat → Option V2))) : sN (uR σ x) = sN σ := rfl
theorem sB_uR (σ : hs_S) (x : List (Nat × Nat × (Nat → Option V2))) : sB (uR σ x) = sB σ := rfl
theorem sC_uR (σ : hs_S) (x : List (Nat × Nat × (Nat → Option V2))) : sC (uR σ x) = sC σ := rfl
theorem sA_uR (σ : hs_S) (x : List (Nat × Nat × (Nat → Option V2))) : sA (uR σ x) = sA σ := rfl
theorem sLe_uR (σ : hs_S) (x : List (Nat × Nat × (Nat → Option V2))) : sLe (uR σ x) = sLe σ := rfl
theorem sCe_uR (σ : hs_S) (x : List (Nat × Nat × (Nat → Option V2))) : sCe (uR σ x) = sCe σ := rfl
theorem sT_uR (σ : hs_S) (x : List (Nat × Nat × (Nat → Option V2))) : sT (uR σ x) = sT σ := rfl
theorem sNt_uR (σ : hs_S) (x : List (Nat × Nat × (Nat → Option V2))) : sNt (uR σ x) = sNt σ := rfl
theorem sR_uR (σ : hs_S) (x : List (Nat × Nat × (Nat → Option V2))) : sR (uR σ x) = x := rfl
theorem sK_uR (σ : hs_S) (x : List (Nat × Nat × (Nat → Option V2))) : sK (uR σ x) = sK σ := rfl
theorem sRs_uR (σ : hs_S) (x : List (Nat × Nat × (Nat → Option V2))) : sRs (uR σ x) = sRs σ := rfl
theorem sTr_uR (σ : hs_S) (x : List (Nat × Nat × (Nat → Option V2))) : sTr (uR σ x) = sTr σ := rfl
theorem sW_uR (σ : hs_S) (x : List (Nat × Nat × (Nat → Option V2))) : sW (uR σ x) = sW σ := rfl
theorem sAl_uR (σ : hs_S) (x : List (Nat × Nat × (Nat → Option V2))) : sAl (uR σ x) = sAl σ := rfl
theorem sN_uK (σ : hs_S) (x : List (Nat × Nat × Nat)) : sN (uK σ x) = sN σ := rfl
theorem sB_uK (σ : hs_S) (x : List (Nat × Nat × Nat)) : sB (uK σ x) = sB σ := rfl
theorem sC_uK (σ : hs_S) (x : List (Nat × Nat × Nat)) : sC (uK σ x) = sC σ := rfl
theorem sA_uK (σ : hs_S) (x : List (Nat × Nat × Nat)) : sA (uK σ x) = sA σ := rfl
theorem sLe_uK (σ : hs_S) (x : List (Nat × Nat × Nat)) : sLe (uK σ x) = sLe σ := rfl
theorem sCe_uK (σ : hs_S) (x : List (Nat × Nat × Nat)) : sCe (uK σ x) = sCe σ := rfl
theorem sT_uK (σ : hs_S) (x : List (Nat × Nat × Nat)) : sT (uK σ x) = sT σ := rfl
theorem sNt_uK (σ : hs_S) (x : List (Nat × Nat × Nat)) : sNt (uK σ x) = sNt σ := rfl
theorem sR_uK (σ : hs_S) (x : List (Nat × Nat × Nat)) : sR (uK σ x) = sR σ := rfl
theorem sK_uK (σ : hs_S) (x : List (Nat × Nat × Nat)) : sK (uK σ x) = x := rfl
theorem sRs_uK (σ : hs_S) (x : List (Nat × Nat × Nat)) : sRs (uK σ x) = sRs σ := rfl
theorem sTr_uK (σ : hs_S) (x : List (Nat × Nat × Nat)) : sTr (uK σ x) = sTr σ := rfl
theorem sW_uK (σ : hs_S) (x : List (Nat × Nat × Nat)) : sW (uK σ x) = sW σ := rfl
theorem sAl_uK (σ : hs_S) (x : List (Nat × Nat × Nat)) : sAl (uK σ x) = sAl σ := rfl
theorem sN_uRs (σ : hs_S) (x : List (V2 × Nat)) : sN (uRs σ x) = sN σ := rfl
theorem sB_uRs (σ : hs_S) (x : List (V2 × Nat)) : sB (uRs σ x) = sB σ := rfl
theorem sC_uRs (σ : hs_S) (x : List (V2 × Nat)) : sC (uRs σ x) = sC σ := rfl
theorem sA_uRs (σ : hs_S) (x : List (V2 × Nat)) : sA (uRs σ x) = sA σ := rfl
theorem sLe_uRs (σ : hs_S) (x : List (V2 × Nat)) : sLe (uRs σ x) = sLe σ := rfl
theorem sCe_uRs (σ : hs_S) (x : List (V2 × Nat)) : sCe (uRs σ x) = sCe σ := rfl
theorem sT_uRs (σ : hs_S) (x : List (V2 × Nat)) : sT (uRs σ x) = sT σ := rfl
theorem sNt_uRs (σ : hs_S) (x : List (V2 × Nat)) : sNt (uRs σ x) = sNt σ := rfl
theorem sR_uRs (σ : hs_S) (x : List (V2 × Nat)) : sR (uRs σ x) = sR σ := rfl
theorem sK_uRs (σ : hs_S) (x : List (V2 × Nat)) : sK (uRs σ x) = sK σ := rfl
theorem sRs_uRs (σ : hs_S) (x : List (V2 × Nat)) : sRs (uRs σ x) = x := rfl
theorem sTr_uRs (σ : hs_S) (x : List (V2 × Nat)) : sTr (uRs σ x) = sTr σ := rfl
theorem sW_uRs (σ : hs_S) (x : List (V2 × Nat)) : sW (uRs σ x) = sW σ := rfl
theorem sAl_uRs (σ : hs_S) (x : List (V2 × Nat)) : sAl (uRs σ x) = sAl σ := rfl
theorem sN_uTr (σ : hs_S) (x : Nat) : sN (uTr σ x) = sN σ := rfl
theorem sB_uTr (σ : hs_S) (x : Nat) : sB (uTr σ x) = sB σ := rfl
theorem sC_uTr (σ : hs_S) (x : Nat) : sC (uTr σ x) = sC σ := rfl
theorem sA_uTr (σ : hs_S) (x : Nat) : sA (uTr σ x) = sA σ := rfl
theorem sLe_uTr (σ : hs_S) (x : Nat) : sLe (uTr σ x) = sLe σ := rfl
theorem sCe_uTr (σ : hs_S) (x : Nat) : sCe (uTr σ x) = sCe σ := rfl
theorem sT_uTr (σ : hs_S) (x : Nat) : sT (uTr σ x) = sT σ := rfl
theorem sNt_uTr (σ : hs_S) (x : Nat) : sNt (uTr σ x) = sNt σ := rfl
theorem sR_uTr (σ : hs_S) (x : Nat) : sR (uTr σ x) = sR σ := rfl
theorem sK_uTr (σ : hs_S) (x : Nat) : sK (uTr σ x) = sK σ := rfl
theorem sRs_uTr (σ : hs_S) (x : Nat) : sRs (uTr σ x) = sRs σ := rfl
theorem sTr_uTr (σ : hs_S) (x : Nat) : sTr (uTr σ x) = x := rfl
theorem sW_uTr (σ : hs_S) (x : Nat) : sW (uTr σ x) = sW σ := rfl
theorem sAl_uTr (σ : hs_S) (x : Nat) : sAl (uTr σ x) = sAl σ := rfl
theorem sN_uW (σ : hs_S) (x : Nat) : sN (uW σ x) = sN σ := rfl
theorem sB_uW (σ : hs_S) (x : Nat) : sB (uW σ x) = sB σ := rfl
theorem sC_uW (σ : hs_S) (x : Nat) : sC (uW σ x) = sC σ := rfl
theorem sA_uW (σ : hs_S) (x : Nat) : sA (uW σ x) = sA σ := rfl
theorem sLe_uW (σ : hs_S) (x : Nat) : sLe (uW σ x) = sLe σ := rfl
theorem sCe_uW (σ : hs_S) (x : Nat) : sCe (uW σ x) = sCe σ := rfl
theorem sT_uW (σ : hs_S) (x : Nat) : sT (uW σ x) = sT σ := rfl
theorem sNt_uW (σ : hs_S) (x : Nat) : sNt (uW σ x) = sNt σ := rfl
theorem sR_uW (σ : hs_S) (x : Nat) : sR (uW σ x) = sR σ := rfl
theorem sK_uW (σ : hs_S) (x : Nat) : sK (uW σ x) = sK σ := rfl
theorem sRs_uW (σ : hs_S) (x : Nat) : sRs (uW σ x) = sRs σ := rfl
theorem sTr_uW (σ : hs_S) (x : Nat) : sTr (uW σ x) = sTr σ := rfl
theorem sW_uW (σ : hs_S) (x : Nat) : sW (uW σ x) = x := rfl
theorem sAl_uW (σ : hs_S) (x : Nat) : sAl (uW σ x) = sAl σ := rfl
theorem sN_uAl (σ : hs_S) (x : Nat) : sN (uAl σ x) = sN σ := rfl
theorem sB_uAl (σ : hs_S) (x : Nat) : sB (uAl σ x) = sB σ := rfl
theorem sC_uAl (σ : hs_S) (x : Nat) : sC (uAl σ x) = sC σ := rfl
theorem sA_uAl (σ : hs_S) (x : Nat) : sA (uAl σ x) = sA σ := rfl
theorem sLe_uAl (σ : hs_S) (x : Nat) : sLe (uAl σ x) = sLe σ := rfl
theorem sCe_uAl (σ : hs_S) (x : Nat) : sCe (uAl σ x) = sCe σ := rfl
theorem sT_uAl (σ : hs_S) (x : Nat) : sT (uAl σ x) = sT σ := rfl
theorem sNt_uAl (σ : hs_S) (x : Nat) : sNt (uAl σ x) = sNt σ := rfl
theorem sR_uAl (σ : hs_S) (x : Nat) : sR (uAl σ x) = sR σ := rfl
theorem sK_uAl (σ : hs_S) (x : Nat) : sK (uAl σ x) = sK σ := rfl
theorem sRs_uAl (σ : hs_S) (x : Nat) : sRs (uAl σ x) = sRs σ := rfl
theorem sTr_uAl (σ : hs_S) (x : Nat) : sTr (uAl σ x) = sTr σ := rfl
theorem sW_uAl (σ : hs_S) (x : Nat) : sW (uAl σ x) = sW σ := rfl
theorem sAl_uAl (σ : hs_S) (x : Nat) : sAl (uAl σ x) = x := rfl
abbrev hf_S : Type := (Nat → Nat) × (Nat → Option Nat) × (Nat → Nat × Nat) × (Nat → Nat × Nat) × (List Nat) × (Nat × Nat → List Nat) × (Nat → Nat) × (Nat → Int32) × (Nat → Nat → Option V2)
def gkl (γ : hf_S) : Nat → Nat := γ.1
def gcd (γ : hf_S) : Nat → Option Nat := γ.2.1
def gro (γ : hf_S) : Nat → Nat × Nat := γ.2.2.1
def gpl (γ : hf_S) : Nat → Nat × Nat := γ.2.2.2.1
def gMD (γ : hf_S) : List Nat := γ.2.2.2.2.1
def gG (γ : hf_S) : Nat × Nat → List Nat := γ.2.2.2.2.2.1
def gna (γ : hf_S) : Nat → Nat := γ.2.2.2.2.2.2.1
def gfc (γ : hf_S) : Nat → Int32 := γ.2.2.2.2.2.2.2.1
def gft (γ : hf_S) : Nat → Nat → Option V2 := γ.2.2.2.2.2.2.2.2
def wkl (γ : hf_S) (x : Nat → Nat) : hf_S := (x, gcd γ, gro γ, gpl γ, gMD γ, gG γ, gna γ, gfc γ, gft γ)
def wcd (γ : hf_S) (x : Nat → Option Nat) : hf_S := (gkl γ, x, gro γ, gpl γ, gMD γ, gG γ, gna γ, gfc γ, gft γ)
def wro (γ : hf_S) (x : Nat → Nat × Nat) : hf_S := (gkl γ, gcd γ, x, gpl γ, gMD γ, gG γ, gna γ, gfc γ, gft γ)
def wpl (γ : hf_S) (x : Nat → Nat × Nat) : hf_S := (gkl γ, gcd γ, gro γ, x, gMD γ, gG γ, gna γ, gfc γ, gft γ)
def wMD (γ : hf_S) (x : List Nat) : hf_S := (gkl γ, gcd γ, gro γ, gpl γ, x, gG γ, gna γ, gfc γ, gft γ)
def wG (γ : hf_S) (x : Nat × Nat → List Nat) : hf_S := (gkl γ, gcd γ, gro γ, gpl γ, gMD γ, x, gna γ, gfc γ, gft γ)
def wna (γ : hf_S) (x : Nat → Nat) : hf_S := (gkl γ, gcd γ, gro γ, gpl γ, gMD γ, gG γ, x, gfc γ, gft γ)
def wfc (γ : hf_S) (x : Nat → Int32) : hf_S := (gkl γ, gcd γ, gro γ, gpl γ, gMD γ, gG γ, gna γ, x, gft γ)
def wft (γ : hf_S) (x : Nat → Nat → Option V2) : hf_S := (gkl γ, gcd γ, gro γ, gpl γ, gMD γ, gG γ, gna γ, gfc γ, x)
theorem gkl_wkl (γ : hf_S) (x : Nat → Nat) : gkl (wkl γ x) = x := rfl
theorem gcd_wkl (γ : hf_S) (x : Nat → Nat) : gcd (wkl γ x) = gcd γ := rfl
theorem gro_wkl (γ : hf_S) (x : Nat → Nat) : gro (wkl γ x) = gro γ := rfl
theorem gpl_wkl (γ : hf_S) (x : Nat → Nat) : gpl (wkl γ x) = gpl γ := rfl
theorem gMD_wkl (γ : hf_S) (x : Nat → Nat) : gMD (wkl γ x) = gMD γ := rfl
theorem gG_wkl (γ : hf_S) (x : Nat → Nat) : gG (wkl γ x) = gG γ := rfl
theorem gna_wkl (γ : hf_S) (x : Nat → Nat) : gna (wkl γ x) = gna γ := rfl
theorem gfc_wkl (γ : hf_S) (x : Nat → Nat) : gfc (wkl γ x) = gfc γ := rfl
theorem gft_wkl (γ : hf_S) (x : Nat → Nat) : gft (wkl γ x) = gft γ := rfl
theorem gkl_wcd (γ : hf_S) (x : Nat → Option Nat) : gkl (wcd γ x) = gkl γ := rfl
theorem gcd_wcd (γ : hf_S) (x : Nat → Option Nat) : gcd (wcd γ x) = x := rfl
theorem gro_wcd (γ : hf_S) (x : Nat → Option Nat) : gro (wcd γ x) = gro γ := rfl
theorem gpl_wcd (γ : hf_S) (x : Nat → Option Nat) : gpl (wcd γ x) = gpl γ := rfl
theorem gMD_wcd (γ : hf_S) (x : Nat → Option Nat) : gMD (wcd γ x) = gMD γ := rfl
theorem gG_wcd (γ : hf_S) (x : Nat → Option Nat) : gG (wcd γ x) = gG γ := rfl
theorem gna_wcd (γ : hf_S) (x : Nat → Option Nat) : gna (wcd γ x) = gna γ := rfl
theorem gfc_wcd (γ : hf_S) (x : Nat → Option Nat) : gfc (wcd γ x) = gfc γ := rfl
theorem gft_wcd (γ : hf_S) (x : Nat → Option Nat) : gft (wcd γ x) = gft γ := rfl
theorem gkl_wro (γ : hf_S) (x : Nat → Nat × Nat) : gkl (wro γ x) = gkl γ := rfl
theorem gcd_wro (γ : hf_S) (x : Nat → Nat × Nat) : gcd (wro γ x) = gcd γ := rfl
theorem gro_wro (γ : hf_S) (x : Nat → Nat × Nat) : gro (wro γ x) = x := rfl
theorem gpl_wro (γ : hf_S) (x : Nat → Nat × Nat) : gpl (wro γ x) = gpl γ := rfl
theorem gMD_wro (γ : hf_S) (x : Nat → Nat × Nat) : gMD (wro γ x) = gMD γ := rfl
theorem gG_wro (γ : hf_S) (x : Nat → Nat × Nat) : gG (wro γ x) = gG γ := rfl
theorem gna_wro (γ : hf_S) (x : Nat → Nat × Nat) : gna (wro γ x) = gna γ := rfl
theorem gfc_wro (γ : hf_S) (x : Nat → Nat × Nat) : gfc (wro γ x) = gfc γ := rfl
theorem gft_wro (γ : hf_S) (x : Nat → Nat × Nat) : gft (wro γ x) = gft γ := rfl
theorem gkl_wpl (γ : hf_S) (x : Nat → Nat × Nat) : gkl (wpl γ x) = gkl γ := rfl
theorem gcd_wpl (γ : hf_S) (x : Nat → Nat × Nat) : gcd (wpl γ x) = gcd γ := rfl
theorem gro_wpl (γ : hf_S) (x : Nat → Nat × Nat) : gro (wpl γ x) = gro γ := rfl
theorem gpl_wpl (γ : hf_S) (x : Nat → Nat × Nat) : gpl (wpl γ x) = x := rfl
theorem gMD_wpl (γ : hf_S) (x : Nat → Nat × Nat) : gMD (wpl γ x) = gMD γ := rfl
theorem gG_wpl (γ : hf_S) (x : Nat → Nat × Nat) : gG (wpl γ x) = gG γ := rfl
theorem gna_wpl (γ : hf_S) (x : Nat → Nat × Nat) : gna (wpl γ x) = gna γ := rfl
theorem gfc_wpl (γ : hf_S) (x : Nat → Nat × Nat) : gfc (wpl γ x) = gfc γ := rfl
theorem gft_wpl (γ : hf_S) (x : Nat → Nat × Nat) : gft (wpl γ x) = gft γ := rfl
theorem gkl_wMD (γ : hf_S) (x : List Nat) : gkl (wMD γ x) = gkl γ := rfl
theorem gcd_wMD (γ : hf_S) (x : List Nat) : gcd (wMD γ x) = gcd γ := rfl
theorem gro_wMD (γ : hf_S) (x : List Nat) : gro (wMD γ x) = gro γ := rfl
theorem gpl_wMD (γ : hf_S) (x : List Nat) : gpl (wMD γ x) = gpl γ := rfl
theorem gMD_wMD (γ : hf_S) (x : List Nat) : gMD (wMD γ x) = x := rfl
theorem gG_wMD (γ : hf_S) (x : List Nat) : gG (wMD γ x) = gG γ := rfl
theorem gna_wMD (γ : hf_S) (x : List Nat) : gna (wMD γ x) = gna γ := rfl
theorem gfc_wMD (γ : hf_S) (x : List Nat) : gfc (wMD γ x) = gfc γ := rfl
theorem gft_wMD (γ : hf_S) (x : List Nat) : gft (wMD γ x) = gft γ := rfl
theorem gkl_wG (γ : hf_S) (x : Nat × Nat → List Nat) : gkl (wG γ x) = gkl γ := rfl
theorem gcd_wG (γ : hf_S) (x : Nat × Nat → List Nat) : gcd (wG γ x) = gcd γ := rfl
theorem gro_wG (γ : hf_S) (x : Nat × Nat → List Nat) : gro (wG γ x) = gro γ := rfl
theorem gpl_wG (γ : hf_S) (x : Nat × Nat → List Nat) : gpl (wG γ x) = gpl γ := rfl
theorem gMD_wG (γ : hf_S) (x : Nat × Nat → List Nat) : gMD (wG γ x) = gMD γ := rfl
theorem gG_wG (γ : hf_S) (x : Nat × Nat → List Nat) : gG (wG γ x) = x := rfl
theorem gna_wG (γ : hf_S) (x : Nat × Nat → List Nat) : gna (wG γ x) = gna γ := rfl
theorem gfc_wG (γ : hf_S) (x : Nat × Nat → List Nat) : gfc (wG γ x) = gfc γ := rfl
theorem gft_wG (γ : hf_S) (x : Nat × Nat → List Nat) : gft (wG γ x) = gft γ := rfl
theorem gkl_wna (γ : hf_S) (x : Nat → Nat) : gkl (wna γ x) = gkl γ := rfl
theorem gcd_wna (γ : hf_S) (x : Nat → Nat) : gcd (wna γ x) = gcd γ := rfl
theorem gro_wna (γ : hf_S) (x : Nat → Nat) : gro (wna γ x) = gro γ := rfl
theorem gpl_wna (γ : hf_S) (x : Nat → Nat) : gpl (wna γ x) = gpl γ := rfl
theorem gMD_wna (γ : hf_S) (x : Nat → Nat) : gMD (wna γ x) = gMD γ := rfl
theorem gG_wna (γ : hf_S) (x : Nat → Nat) : gG (wna γ x) = gG γ := rfl
theorem gna_wna (γ : hf_S) (x : Nat → Nat) : gna (wna γ x) = x := rfl
theorem gfc_wna (γ : hf_S) (x : Nat → Nat) : gfc (wna γ x) = gfc γ := rfl
theorem gft_wna (γ : hf_S) (x : Nat → Nat) : gft (wna γ x) = gft γ := rfl
theorem gkl_wfc (γ : hf_S) (x : Nat → Int32) : gkl (wfc γ x) = gkl γ := rfl
theorem gcd_wfc (γ : hf_S) (x : Nat → Int32) : gcd (wfc γ x) = gcd γ := rfl
theorem gro_wfc (γ : hf_S) (x : Nat → Int32) : gro (wfc γ x) = gro γ := rfl
theorem gpl_wfc (γ : hf_S) (x : Nat → Int32) : gpl (wfc γ x) = gpl γ := rfl
theorem gMD_wfc (γ : hf_S) (x : Nat → Int32) : gMD (wfc γ x) = gMD γ := rfl
theorem gG_wfc (γ : hf_S) (x : Nat → Int32) : gG (wfc γ x) = gG γ := rfl
theorem gna_wfc (γ : hf_S) (x : Nat → Int32) : gna (wfc γ x) = gna γ := rfl
theorem gfc_wfc (γ : hf_S) (x : Nat → Int32) : gfc (wfc γ x) = x := rfl
theorem gft_wfc (γ : hf_S) (x : Nat → Int32) : gft (wfc γ x) = gft γ := rfl
theorem gkl_wft (γ : hf_S) (x : Nat → Nat → Option V2) : gkl (wft γ x) = gkl γ := rfl
theorem gcd_wft (γ : hf_S) (x : Nat → Nat → Option V2) : gcd (wft γ x) = gcd γ := rfl
theorem gro_wft (γ : hf_S) (x : Nat → Nat → Option V2) : gro (wft γ x) = gro γ := rfl
theorem gpl_wft (γ : hf_S) (x : Nat → Nat → Option V2) : gpl (wft γ x) = gpl γ := rfl
theorem gMD_wft (γ : hf_S) (x : Nat → Nat → Option V2) : gMD (wft γ x) = gMD γ := rfl
theorem gG_wft (γ : hf_S) (x : Nat → Nat → Option V2) : gG (wft γ x) = gG γ := rfl
theorem gna_wft (γ : hf_S) (x : Nat → Nat → Option V2) : gna (wft γ x) = gna γ := rfl
theorem gfc_wft (γ : hf_S) (x : Nat → Nat → Option V2) : gfc (wft γ x) = gfc γ := rfl
theorem gft_wft (γ : hf_S) (x : Nat → Nat → Option V2) : gft (wft γ x) = x := rfl
end
section
/-! WHAT STAYS: every cell of M stands in M1 as it was, but those named (objects, lists, arrays of references, int arrays) -/
def Ext (M M1 : hx_S) (cs : Nat → Nat → Prop) (qs rs is : Nat → Prop) : Prop :=
  (∀ c b v, So M c b = some v → ¬ cs c b → So M1 c b = some v) ∧
  (∀ b v, Sq M b = some v → ¬ qs b → Sq M1 b = some v) ∧
  (∀ k b v, Sr M k b = some v → ¬ rs b → Sr M1 k b = some v) ∧
  (∀ b v, Si M b = some v → ¬ is b → Si M1 b = some v) ∧
  (∀ b v, Sj M b = some v → Sj M1 b = some v) ∧ Sz M ≤ Sz M1
abbrev no1 : Nat → Prop := fun _ => False
abbrev no2 : Nat → Nat → Prop := fun _ _ => False
def LQ (M : hx_S) (a : Nat) (xs : List Nat) : Prop := ∃ y, Sq M a = some (xs, y)
section EXT
variable {M M1 M2 : hx_S} {cs cs' : Nat → Nat → Prop} {qs rs is qs' rs' is' : Nat → Prop}
theorem Ext.rf (M : hx_S) : Ext M M cs qs rs is := ⟨fun _ _ _ h _ => h, fun _ _ h _ => h, fun _ _ _ h _ => h, fun _ _ h _ => h, fun _ _ h => h, Nat.le_refl _⟩
theorem Ext.tr (h : Ext M M1 cs qs rs is) (k : Ext M1 M2 cs qs rs is) : Ext M M2 cs qs rs is :=
  ⟨fun c b v a n => k.1 c b v (h.1 c b v a n) n, fun b v a n => k.2.1 b v (h.2.1 b v a n) n, fun c b v a n => k.2.2.1 c b v (h.2.2.1 c b v a n) n, fun b v a n => k.2.2.2.1 b v (h.2.2.2.1 b v a n) n, fun b v a => k.2.2.2.2.1 b v (h.2.2.2.2.1 b v a), Nat.le_trans h.2.2.2.2.2 k.2.2.2.2.2⟩
theorem Ext.mono (h : Ext M M1 cs qs rs is) (h1 : ∀ c b, cs c b → cs' c b) (h2 : ∀ b, qs b → qs' b) (h3 : ∀ b, rs b → rs' b) (h4 : ∀ b, is b → is' b) : Ext M M1 cs' qs' rs' is' :=
  ⟨fun c b v a n => h.1 c b v a (fun z => n (h1 _ _ z)), fun b v a n => h.2.1 b v a (fun z => n (h2 _ z)), fun c b v a n => h.2.2.1 c b v a (fun z => n (h3 _ z)), fun b v a n => h.2.2.2.1 b v a (fun z => n (h4 _ z)), h.2.2.2.2.1, h.2.2.2.2.2⟩
theorem Ext.so (h : Ext M M1 cs qs rs is) {c b : Nat} {v : List Value} (k : So M c b = some v) (n : ¬ cs c b) : So M1 c b = some v := h.1 c b v k n
theorem Ext.lq (h : Ext M M1 cs qs rs is) {b : Nat} {xs : List Nat} (k : LQ M b xs) (n : ¬ qs b) : LQ M1 b xs := let ⟨y, hy⟩ := k; ⟨y, h.2.1 b _ hy n⟩
theorem ext_oput {c a : Nat} {x : Option (List Value)} : Ext M (oput M c a x) (fun c' b => c' = c ∧ b = a) no1 no1 no1 :=
  ⟨fun c' b v h n => by rw [So_oput, if_neg n]; exact h, fun _ _ h _ => h, fun _ _ _ h _ => h, fun _ _ h _ => h, fun _ _ h => h, Nat.le_refl _⟩
theorem ext_qput {a : Nat} {x : Option (List Nat × Nat × Nat × Int32)} : Ext M (qput M a x) no2 (fun b => b = a) no1 no1 :=
  ⟨fun _ _ _ h _ => h, fun b v h n => by rw [Sq_qput, if_neg n]; exact h, fun _ _ _ h _ => h, fun _ _ h _ => h, fun _ _ h => h, Nat.le_refl _⟩
theorem ext_rput {k a : Nat} {x : Option (Nat × (Nat → Option Nat))} : Ext M (rput M k a x) no2 no1 (fun b => b = a) no1 :=
  ⟨fun _ _ _ h _ => h, fun _ _ h _ => h, fun k' b v h n => by rw [Sr_rput, if_neg (fun z => n z.2)]; exact h, fun _ _ h _ => h, fun _ _ h => h, Nat.le_refl _⟩
theorem ext_iput {a : Nat} {x : Option (Nat × (Nat → Int32))} : Ext M (iput M a x) no2 no1 no1 (fun b => b = a) :=
  ⟨fun _ _ _ h _ => h, fun _ _ h _ => h, fun _ _ _ h _ => h, fun b v h n => by rw [Si_iput, if_neg n]; exact h, fun _ _ h => h, Nat.le_refl _⟩
theorem ext_grow {n k : Nat} : Ext M (grow M n k) no2 no1 no1 no1 :=
  ⟨fun _ _ _ h _ => h, fun _ _ h _ => h, fun _ _ _ h _ => h, fun _ _ h _ => h, fun _ _ h => h, Nat.le_succ _⟩
/-- what is new is new -/
theorem Wf.nso (h : Wf M) {c b : Nat} (hb : Sz M ≤ b) : So M c b = none := by
  cases e : So M c b with
  | none => rfl
  | some v => have := (h.1 c b v e).2.2; omega
theorem Wf.nsq (h : Wf M) {b : Nat} (hb : Sz M ≤ b) : Sq M b = none := by
  cases e : Sq M b with
  | none => rfl
  | some v => have := (h.2.2.2.2 b v e).2.1; omega
theorem Wf.nsr (h : Wf M) {k b : Nat} (hb : Sz M ≤ b) : Sr M k b = none := by
  cases e : Sr M k b with
  | none => rfl
  | some v => have := (h.2.2.2.1 k b v e).2.2; omega
theorem Wf.nsi (h : Wf M) {b : Nat} (hb : Sz M ≤ b) : Si M b = none := by
  cases e : Si M b with
  | none => rfl
  | some v => have := (h.2.1 b v e).2; omega
theorem ext_new (hw : Wf M) {c n : Nat} {x : Option (List Value)} : Ext M (oput (grow M n c) c (Sz M) x) no2 no1 no1 no1 :=
  ⟨fun c' b v h _ => by rw [So_oput, if_neg (fun z => by rw [z.1, z.2, hw.nso (Nat.le_refl _)] at h; cases h)]; exact h, fun _ _ h _ => h, fun _ _ _ h _ => h, fun _ _ h _ => h, fun _ _ h => h, Nat.le_succ _⟩
theorem ext_nq (hw : Wf M) : Ext M (nq M) no2 no1 no1 no1 :=
  ⟨fun _ _ _ h _ => h, fun b v h _ => by rw [Sq_nq, if_neg (fun z => by rw [z, hw.nsq (Nat.le_refl _)] at h; cases h)]; exact h, fun _ _ _ h _ => h, fun _ _ h _ => h, fun _ _ h => h, Nat.le_succ _⟩
theorem ext_nr (hw : Wf M) {k n : Nat} {f : Nat → Option Nat} : Ext M (nr M k n f) no2 no1 no1 no1 :=
  ⟨fun _ _ _ h _ => h, fun _ _ h _ => h, fun k' b v h _ => by unfold nr; rw [Sr_rput, if_neg (fun z => by rw [z.2, hw.nsr (Nat.le_refl _)] at h; cases h)]; exact h, fun _ _ h _ => h, fun _ _ h => h, Nat.le_succ _⟩
theorem Sz_addq {a v : Nat} {x : List Nat × Nat × Nat × Int32} : Sz (addq M a x v) = if x.1.length < x.2.1 then Sz M else Sz M + 1 := by unfold addq; split <;> rfl
theorem Sl_addq {a v : Nat} {x : List Nat × Nat × Nat × Int32} : Sl (addq M a x v) = if x.1.length < x.2.1 then Sl M else Sl M + ncap x.2.1 := by unfold addq; split <;> rfl
theorem Sq_addq {a v : Nat} {x : List Nat × Nat × Nat × Int32} (b : Nat) : Sq (addq M a x v) b = if b = a then some (x.1 ++ [v], (if x.1.length < x.2.1 then x.2.1 else ncap x.2.1), (if x.1.length < x.2.1 then x.2.2.1 else Sz M), x.2.2.2 + 1) else Sq M b := by unfold addq; split <;> rfl
theorem So_addq {a v : Nat} {x : List Nat × Nat × Nat × Int32} (c b : Nat) : So (addq M a x v) c b = So M c b := by unfold addq; split <;> rfl
theorem Si_addq {a v : Nat} {x : List Nat × Nat × Nat × Int32} (b : Nat) : Si (addq M a x v) b = Si M b := by unfold addq; split <;> rfl
theorem Sj_addq {a v : Nat} {x : List Nat × Nat × Nat × Int32} (b : Nat) : Sj (addq M a x v) b = Sj M b := by unfold addq; split <;> rfl
theorem Sr_addq {a v : Nat} {x : List Nat × Nat × Nat × Int32} (c b : Nat) : Sr (addq M a x v) c b = Sr M c b := by unfold addq; split <;> rfl
theorem ext_addq {a v : Nat} {x : List Nat × Nat × Nat × Int32} : Ext M (addq M a x v) no2 (fun b => b = a) no1 no1 :=
  ⟨fun _ _ _ h _ => by rw [So_addq]; exact h, fun b v h n => by rw [Sq_addq, if_neg n]; exact h, fun _ _ _ h _ => by rw [Sr_addq]; exact h, fun _ _ h _ => by rw [Si_addq]; exact h, fun _ _ h => by rw [Sj_addq]; exact h, by rw [Sz_addq]; split <;> omega⟩
theorem lq_addq {a v : Nat} {x : List Nat × Nat × Nat × Int32} : LQ (addq M a x v) a (x.1 ++ [v]) := ⟨_, by rw [Sq_addq, if_pos rfl]⟩
end EXT
/-! THE ACCOUNT: slots, cells, and what the lists have put by for growing -/
def psum (f : Nat → Nat) : Nat → Nat
  | 0 => 0
  | n + 1 => psum f n + f n
theorem psum_congr {f g : Nat → Nat} {n : Nat} (h : ∀ b, b < n → f b = g b) : psum f n = psum g n := by
  induction n with
  | zero => rfl
  | succ n ih => show psum f n + f n = psum g n + g n; rw [ih (fun b hb => h b (by omega)), h n (by omega)]
theorem psum_set {f g : Nat → Nat} {n a : Nat} (ha : a < n) (h : ∀ b, b ≠ a → f b = g b) : psum f n + g a = psum g n + f a := by
  induction n with
  | zero => omega
  | succ n ih =>
    show psum f n + f n + g a = psum g n + g n + f a
    by_cases e : a = n
    · subst e; rw [psum_congr (fun b hb => h b (by omega))]; omega
    · have := ih (by omega); have := h n (fun z => e z.symm); omega
def pt (x : Option (List Nat × Nat × Nat × Int32)) : Nat := match x with
  | none => 0
  | some x => if x.2.1 = 0 then 44 else 18 * x.1.length - 12 * x.2.1
/-- the account: fr is the list of the free frames, z0 where the heap ended at the beginning -/
def acc (M : hx_S) (fr z0 : Nat) : Nat := 2 * Sl M + 24 * (Sz M - z0) + psum (fun b => if b = fr then 0 else pt (Sq M b)) (Sz M)
/-- what is put by for the free frames, if m are made -/
def pfr (m cap : Nat) : Nat := if cap = 0 then 44 + 18 * m else 18 * m - 12 * cap
section ACC
variable {M M1 : hx_S} {fr z0 a : Nat}
theorem acc_same (h1 : Sz M1 = Sz M) (h2 : Sl M1 = Sl M) (h3 : ∀ b, Sq M1 b = Sq M b) : acc M1 fr z0 = acc M fr z0 := by
  unfold acc; rw [h1, h2, psum_congr (fun b _ => by rw [h3])]
/-- one cell more, of n slots, and no list -/
theorem acc_one {n : Nat} (hw : Wf M) (hz : z0 ≤ Sz M) (h1 : Sz M1 = Sz M + 1) (h2 : Sl M1 = Sl M + n) (h3 : ∀ b, Sq M1 b = Sq M b) : acc M1 fr z0 = acc M fr z0 + 24 + 2 * n := by
  unfold acc; rw [h1, h2, psum_congr (g := fun b => if b = fr then 0 else pt (Sq M b)) (fun b _ => by rw [h3])]
  show _ + (psum _ (Sz M) + (if Sz M = fr then 0 else pt (Sq M (Sz M)))) = _
  rw [hw.nsq (Nat.le_refl _)]
  have : (if Sz M = fr then 0 else pt none) = 0 := by split <;> rfl
  rw [this]; omega
theorem acc_nq (hw : Wf M) (hz : z0 ≤ Sz M) : acc (nq M) fr z0 ≤ acc M fr z0 + 74 := by
  unfold acc
  rw [Sz_nq, Sl_nq]
  show _ + (psum _ (Sz M) + (if Sz M = fr then 0 else pt (Sq (nq M) (Sz M)))) ≤ _
  rw [psum_congr (g := fun b => if b = fr then 0 else pt (Sq M b)) (fun b hb => by rw [Sq_nq, if_neg (show ¬ b = Sz M by omega)])]
  have : (if Sz M = fr then 0 else pt (Sq (nq M) (Sz M))) ≤ 44 := by
    split
    · omega
    · rw [Sq_nq, if_pos rfl]; exact Nat.le_refl _
  omega
/-- a list holds less than before -/
theorem acc_less {xs ys : List Nat} {cap e : Nat} {mc mc1 : Int32} (hw : Wf M) (hx : Sq M a = some (xs, cap, e, mc)) (hl : ys.length ≤ xs.length) : acc (qput M a (some (ys, cap, e, mc1))) fr z0 ≤ acc M fr z0 := by
  have ha := (hw.2.2.2.2 a _ hx).2.1
  unfold acc
  have k := psum_set (f := fun b => if b = fr then 0 else pt (Sq (qput M a (some (ys, cap, e, mc1))) b)) (g := fun b => if b = fr then 0 else pt (Sq M b)) ha (fun b hb => by simp only [Sq_qput, if_neg hb])
  have e1 : (if a = fr then 0 else pt (Sq (qput M a (some (ys, cap, e, mc1))) a)) ≤ (if a = fr then 0 else pt (Sq M a)) := by
    split
    · omega
    · rw [Sq_qput, if_pos rfl, hx]; unfold pt; simp only; split <;> omega
  rw [Sz_qput, Sl_qput]
  omega
theorem acc_fr_less {x : Option (List Nat × Nat × Nat × Int32)} : acc (qput M fr x) fr z0 = acc M fr z0 := by
  unfold acc
  rw [Sz_qput, Sl_qput, psum_congr (fun b _ => ?_)]
  by_cases h : b = fr
  · rw [if_pos h, if_pos h]
  · rw [if_neg h, if_neg h, Sq_qput, if_neg h]
theorem ncap_1 {cap : Nat} (h : cap ≠ 0) : ncap cap + ncap cap ≤ 3 * cap + 1 + 1 ∧ 3 * cap ≤ ncap cap + ncap cap + 1 := by
  unfold ncap; rw [if_neg h]
  have : max 1 (cap / 2) = if cap = 1 then 1 else cap / 2 := by
    split
    · next h => subst h; rfl
    · exact Nat.max_eq_right (by omega)
  rw [this]; split <;> omega
theorem acc_add {xs : List Nat} {cap e v : Nat} {mc : Int32} (hw : Wf M) (hz : z0 ≤ Sz M) (hn : a ≠ fr) (hx : Sq M a = some (xs, cap, e, mc)) : acc (addq M a (xs, cap, e, mc) v) fr z0 ≤ acc M fr z0 + 48 := by
  obtain ⟨-, ha, hle, -⟩ := hw.2.2.2.2 a _ hx
  simp only at hle
  unfold acc
  rw [Sz_addq, Sl_addq]
  simp only
  have hg : (if a = fr then 0 else pt (Sq M a)) = if cap = 0 then 44 else 18 * xs.length - 12 * cap := by
    rw [if_neg hn, hx]; rfl
  have k := psum_set (f := fun b => if b = fr then 0 else pt (Sq (addq M a (xs, cap, e, mc) v) b)) (g := fun b => if b = fr then 0 else pt (Sq M b)) ha (fun b hb => by simp only [Sq_addq, if_neg hb])
  rw [hg] at k
  by_cases h : xs.length < cap
  · have hf : (if a = fr then 0 else pt (Sq (addq M a (xs, cap, e, mc) v) a)) = 18 * (xs.length + 1) - 12 * cap := by
      rw [if_neg hn, Sq_addq, if_pos rfl]
      unfold pt
      simp only [if_pos h, List.length_append, List.length_singleton]
      rw [if_neg (by omega)]
    rw [hf, if_neg (by omega)] at k
    rw [if_pos h, if_pos h]
    omega
  · have hf : (if a = fr then 0 else pt (Sq (addq M a (xs, cap, e, mc) v) a)) = 18 * (xs.length + 1) - 12 * ncap cap := by
      rw [if_neg hn, Sq_addq, if_pos rfl]
      unfold pt
      simp only [if_neg h, List.length_append, List.length_singleton]
      rw [if_neg (by have := ncap_gt cap; omega)]
    rw [hf] at k
    rw [if_neg h, if_neg h]
    show _ + (psum _ (Sz M) + (if Sz M = fr then 0 else pt (Sq (addq M a (xs, cap, e, mc) v) (Sz M)))) ≤ _
    have h0 : (if Sz M = fr then 0 else pt (Sq (addq M a (xs, cap, e, mc) v) (Sz M))) = 0 := by
      rw [Sq_addq, if_neg (show ¬ Sz M = a by omega), hw.nsq (Nat.le_refl _)]; split <;> rfl
    rw [h0]
    by_cases hc : cap = 0
    · subst hc
      rw [if_pos rfl] at k
      have : ncap 0 = 10 := rfl
      have : xs.length = 0 := by omega
      omega
    · rw [if_neg hc] at k
      have := ncap_1 hc
      have : xs.length = cap := by omega
      omega
/-- a free frame more, and fewer are free than are made -/
theorem acc_addf {xs : List Nat} {cap e v m : Nat} {mc : Int32} (hw : Wf M) (hz : z0 ≤ Sz M) (hx : Sq M fr = some (xs, cap, e, mc)) (hm : xs.length < m) (hc : cap = 0 ∨ 10 ≤ cap) : acc (addq M fr (xs, cap, e, mc) v) fr z0 + pfr m (if xs.length < cap then cap else ncap cap) ≤ acc M fr z0 + pfr m cap ∧ 10 ≤ (if xs.length < cap then cap else ncap cap) := by
  obtain ⟨-, ha, hle, -⟩ := hw.2.2.2.2 fr _ hx
  simp only at hle
  unfold acc
  rw [Sz_addq, Sl_addq]
  simp only
  have kc : ∀ n, psum (fun b => if b = fr then 0 else pt (Sq (addq M fr (xs, cap, e, mc) v) b)) n = psum (fun b => if b = fr then 0 else pt (Sq M b)) n := fun n => psum_congr (fun b _ => by
    by_cases h : b = fr
    · rw [if_pos h, if_pos h]
    · rw [if_neg h, if_neg h, Sq_addq, if_neg h])
  by_cases h : xs.length < cap
  · rw [if_pos h, if_pos h, if_pos h, kc]
    exact ⟨Nat.le_refl _, by omega⟩
  · rw [if_neg h, if_neg h, if_neg h, kc]
    show _ + (psum _ (Sz M) + (if Sz M = fr then 0 else pt (Sq M (Sz M)))) + _ ≤ _ ∧ _
    have h0 : (if Sz M = fr then 0 else pt (Sq M (Sz M))) = 0 := by
      rw [hw.nsq (Nat.le_refl _)]; split <;> rfl
    rw [h0]
    unfold pfr
    have hg := ncap_gt cap
    rw [if_neg (show ¬ ncap cap = 0 by omega)]
    by_cases hc0 : cap = 0
    · subst hc0
      have : ncap 0 = 10 := rfl
      rw [if_pos rfl]
      omega
    · rw [if_neg hc0]
      have := ncap_1 hc0
      omega
theorem pfr_s (m cap : Nat) : pfr (m + 1) cap ≤ pfr m cap + 18 := by unfold pfr; split <;> omega
end ACC
end
section
/-! THE STATE IN THE HEAP. A: fixed addresses; Γ: the graph's; γ: ghosts of frames and cells -/
abbrev hA : Type := Nat → Nat
abbrev N3 : Type := Nat × Nat × Nat
abbrev ND : Type := Nat × Int32 × List N3
abbrev R3 : Type := Nat × Nat × (Nat → Option V2)
abbrev hG : Type := Nat → Nat → Nat
abbrev aT (A : hA) : Nat := A 0
abbrev aV (A : hA) : Nat := A 1
abbrev aN (A : hA) : Nat := A 2
abbrev aF (A : hA) : Nat := A 3
abbrev aM (A : hA) : Nat := A 4
abbrev aE (A : hA) : Nat := A 5
abbrev aR (A : hA) : Nat := A 6
abbrev aX (A : hA) : Nat := A 7
abbrev aO (A : hA) : Nat := A 8
abbrev aS (A : hA) : Nat := A 9
abbrev aU (A : hA) : Nat := A 10
abbrev aC (A : hA) : Nat := A 11
abbrev aW (A : hA) : Nat := A 12
abbrev aL (A : hA) : Nat := A 13
abbrev aQ (A : hA) : Nat := A 14
abbrev aZ (A : hA) : Nat := A 15
abbrev nad (Γ : hG) (i : Nat) : Nat := Γ 0 i
abbrev nar (Γ : hG) (i : Nat) : Nat := Γ 1 i
abbrev nfr (Γ : hG) (i : Nat) : Nat := Γ 2 i
def prt (o : Nat) : Nat := ([1, 2, 2, 2, 2, 2, 1, 2, 1, 1, 1, 1, 1, 1, 1, 2, 3, 1] : List Nat).getD o 1
def nd (σ : hs_S) (i : Nat) : Nat × Int32 × List (Nat × Nat × Nat) := ((sN σ)[i]?).getD (0, 0, [])
def pts (σ : hs_S) (i : Nat) : Nat := prt (nd σ i).1
def cnt (t : Nat → Option V2) : Nat := (if (t 0).isSome then 1 else 0) + (if (t 1).isSome then 1 else 0) + (if (t 2).isSome then 1 else 0)
def no3 : Nat → Option V2 := fun _ => none
theorem cnt_no : cnt no3 = 0 := rfl
theorem cnt_le (t : Nat → Option V2) : cnt t ≤ 3 := by unfold cnt; split <;> split <;> split <;> omega
/-- those kept for cell c -/
def kf (σ : hs_S) (c : Nat) : List (Nat × Nat × Nat) := (sK σ).filter (fun x => x.2.2 == c)
/-- a reference at a port or in a cell -/
def OV (M : hx_S) (nv w : Nat) (o : Option V2) : Prop := (o = none ∧ w = nv) ∨ (∃ v : V2, o = some v ∧ So M 9 w = some [.int v.1, .long v.2] ∧ v.1 ≠ 3)
/-- a frame: f holds t for the node at na in c -/
def FRM (M : hx_S) (ro : Nat → Nat × Nat) (nv f na : Nat) (c : Int32) (t : Nat → Option V2) : Prop := ∃ va w0 w1 w2, ro va = (8, f) ∧ So M 5 f = some [.ref nv, .ref va, .ref na, .int c, .int (nI (cnt t))] ∧ Sr M 1 va = some (3, v3 (some w0) (some w1) (some w2)) ∧ OV M nv w0 (t 0) ∧ OV M nv w1 (t 1) ∧ OV M nv w2 (t 2)
def act (n : Nat) (γ : hf_S) (r : Nat × Nat) : Prop := r = (2, 0) ∨ r = (3, 0) ∨ (r.1 = 6 ∧ r.2 < n) ∨ (r.1 = 7 ∧ ∃ a, gcd γ r.2 = some a)
def ad (A : hA) (Γ : hG) (γ : hf_S) (r : Nat × Nat) : Nat := if r.1 = 2 then aE A else if r.1 = 3 then aR A else if r.1 = 6 then nfr Γ r.2 else gkl γ r.2
/-- the frames in the heap -/
def HF (M : hx_S) (A : hA) (Γ : hG) (n : Nat) (γ : hf_S) : Prop :=
  (LQ M (aM A) (gMD γ) ∧ gro γ (aM A) = (1, 0)) ∧
  (∀ r, act n γ r → LQ M (ad A Γ γ r) (gG γ r) ∧ gro γ (ad A Γ γ r) = r) ∧
  (∀ f, f ∈ gMD γ → FRM M (gro γ) (aV A) f (gna γ f) (gfc γ f) (gft γ f)) ∧
  So M 6 (aF A) = some [.ref (aV A), .ref (aM A), .ref (aE A)] ∧ So M 9 (aV A) = some [.int 3, .long 0]
/-- what the frames mean -/
def PF (Γ : hG) (σ : hs_S) (γ : hf_S) : Prop :=
  (gMD γ).Nodup ∧
  (∀ r, act (sN σ).length γ r → (gG γ r).Nodup ∧ ∀ f, f ∈ gG γ r → f ∈ gMD γ ∧ gpl γ f = r) ∧
  (∀ f, f ∈ gG γ (2, 0) → gft γ f = no3) ∧
  (∀ i, i < (sN σ).length → (∀ f, f ∈ gG γ (6, i) → gna γ f = nad Γ i ∧ ∃ c, c < 151 ∧ gfc γ f = nI c ∧ gft γ f = sT σ i c) ∧ (∀ f g, f ∈ gG γ (6, i) → g ∈ gG γ (6, i) → gfc γ f = gfc γ g → f = g) ∧ (∀ c, c < 151 → (∃ f, f ∈ gG γ (6, i) ∧ gfc γ f = nI c) ∨ sT σ i c = no3)) ∧
  (sR σ).map (fun x => (nad Γ x.1, nI x.2.1, x.2.2)) = (gG γ (3, 0)).map (fun f => (gna γ f, gfc γ f, gft γ f)) ∧
  (∀ c, (∃ a, gcd γ c = some a) → (kf σ c).map (fun x => (nad Γ x.1, nI x.2.1, no3)) = (gG γ (7, c)).map (fun f => (gna γ f, gfc γ f, gft γ f))) ∧
  (∀ c, gcd γ c = none → kf σ c = [])
/-- the graph -/
def GP (M : hx_S) (A : hA) (Γ : hG) (σ : hs_S) (γ : hf_S) : Prop :=
  LQ M (aN A) ((List.range (sN σ).length).map (nad Γ)) ∧ gro γ (aN A) = (0, 0) ∧
  (∀ (i : Nat) (x : ND), (sN σ)[i]? = some x → So M 7 (nad Γ i) = some [.int (nI i), .int (nI x.1), .int x.2.1, .int (nI (prt x.1)), .int (tabX.getD x.1 0), .int (tabY.getD x.1 0), .ref (nar Γ i), .ref (nfr Γ i)] ∧ gro γ (nar Γ i) = (5, i) ∧
    ∃ ys, LQ M (nar Γ i) ys ∧ ys.length = x.2.2.length ∧ ∀ (k a : Nat) (e : N3), ys[k]? = some a → x.2.2[k]? = some e → So M 1 a = some [.int (nI e.1), .ref (nad Γ e.2.1), .int (nI e.2.2)])
/-- the cells -/
def EP (M : hx_S) (A : hA) (σ : hs_S) (γ : hf_S) : Prop :=
  So M 3 (aC A) = some [.ref (aV A), .ref (aW A), .ref (aL A), .int (nI (sA σ))] ∧ (Sr M 0 (aW A) = some (320, gcd γ) ∧ gro γ (aW A) = (12, 0)) ∧
  (∃ fl, Si M (aL A) = some (40, fl) ∧ ∀ k, k < sA σ → fl k = nI (sLe σ k)) ∧ (gro γ (aL A) = (11, 3) ∧ gro γ (aO A) = (11, 0) ∧ gro γ (aS A) = (11, 1) ∧ gro γ (aU A) = (11, 2)) ∧
  (∀ c a, gcd γ c = some a → c < 320 ∧ gro γ a = (9, c) ∧ ∃ w, So M 2 a = some [.ref (gkl γ c), .ref w] ∧ OV M (aV A) w (sCe σ c)) ∧
  (∀ k i, k < sA σ → i < sLe σ k → ∃ a, gcd γ (8 * k + i) = some a)
/-- the results -/
def RP (M : hx_S) (A : hA) (σ : hs_S) (γ : hf_S) : Prop := gro γ (aQ A) = (4, 0) ∧ ∃ xs, LQ M (aQ A) xs ∧ xs.length = (sRs σ).length ∧ ∀ (k a : Nat) (x : V2 × Nat), xs[k]? = some a → (sRs σ)[k]? = some x → ∃ w, So M 8 a = some [.ref w, .int (nI x.2)] ∧ So M 9 w = some [.int x.1.1, .long x.1.2]
def HDf (A : hA) (σ : hs_S) : List Value := [.ref (aV A), .ref (aN A), .ref (aF A), .ref (aR A), .ref (aX A), .ref (aC A), .ref (aQ A), .int (nI (sNt σ)), .int (nI (sK σ).length), .int (nI (sTr σ)), .int (nI (sW σ)), .int (nI (sAl σ)), .int (nI (sB σ))]
/-- the account: m frames are made, k are kept -/
def AP (M : hx_S) (A : hA) (fre : List Nat) (m k b : Nat) : Prop := ∃ cap y, acc M (aE A) (aZ A) + pfr m cap + 1500 * k ≤ b ∧ aZ A ≤ Sz M ∧ Sq M (aE A) = some (fre, cap, y) ∧ (cap = 0 ∨ 10 ≤ cap) ∧ (∀ a x, Sq M a = some x → x.2.1 ≤ Sl M)
/-- a value that may be about: a number, an error of 1 .. 4, an array that there is -/
def GV (na : Nat) (v : V2) : Prop := v.1 = 0 ∨ (v.1 = 1 ∧ ∃ e : Nat, 1 ≤ e ∧ e ≤ 4 ∧ v.2 = lN e) ∨ (v.1 = 2 ∧ ∃ k : Nat, k < na ∧ v.2 = lN k)
theorem GV.ne3 {na : Nat} {v : V2} (h : GV na v) : v.1 ≠ 3 := by
  rcases h with h | h | h
  · rw [h]; decide
  · rw [h.1]; decide
  · rw [h.1]; decide
def GT (na n : Nat) (t : Nat → Option V2) : Prop := ∀ p v, t p = some v → p < n ∧ GV na v
/-- what is true of the state by itself -/
def GS (σ : hs_S) : Prop :=
  (sN σ).length ≤ 40 ∧
  (∀ (i : Nat) (x : ND), (sN σ)[i]? = some x → x.1 < 18 ∧ x.2.2.length ≤ 6 ∧ ∀ e : N3, e ∈ x.2.2 → e.1 ≤ 1 ∧ e.2.1 < (sN σ).length ∧ e.2.2 < pts σ e.2.1) ∧
  (1 ≤ (sC σ).length ∧ (sC σ).length ≤ 151 ∧ (sC σ)[0]? = some ((-1, 0, 0) : T3) ∧ ∀ (j : Nat) (e : T3), 0 < j → (sC σ)[j]? = some e → ∃ k, k < (sC σ).length ∧ e.1 = nI k) ∧
  (sA σ ≤ 40 ∧ (∀ k, k < sA σ → sLe σ k ≤ 8) ∧ (∀ (c : Nat) (v : V2), sCe σ c = some v → c < 8 * sA σ ∧ GV (sA σ) v)) ∧
  (∀ i c, GT (sA σ) (pts σ i) (sT σ i c) ∧ ((∃ p, sT σ i c p ≠ none) → i < (sN σ).length ∧ c < (sC σ).length)) ∧
  (∀ x : R3, x ∈ sR σ → x.1 < (sN σ).length ∧ x.2.1 < (sC σ).length ∧ GT (sA σ) (pts σ x.1) x.2.2 ∧ ∀ p, p < pts σ x.1 → x.2.2 p ≠ none) ∧
  (∀ x : N3, x ∈ sK σ → x.1 < (sN σ).length ∧ x.2.1 < (sC σ).length ∧ ∃ k i, k < sA σ ∧ i < sLe σ k ∧ x.2.2 = 8 * k + i) ∧
  (∀ x : V2 × Nat, x ∈ sRs σ → GV (sA σ) x.1 ∧ x.2 < (sC σ).length) ∧
  (sNt σ + (sR σ).length + (sK σ).length ≤ 300 ∧ sTr σ ≤ 3 ∧ sW σ ≤ sAl σ ∧ sAl σ ≤ 5000 ∧ (sRs σ).length ≤ sW σ ∧ sB σ ≤ 1)
/-- the object holds σ; b: the account's bound -/
def Rep (M : hx_S) (A : hA) (Γ : hG) (σ : hs_S) (γ : hf_S) (b : Nat) : Prop :=
  So M 10 (aT A) = some (HDf A σ) ∧ GP M A Γ σ γ ∧ HF M A Γ (sN σ).length γ ∧ PF Γ σ γ ∧ CX M (aX A) (aO A) (aS A) (aU A) (sC σ) ∧ EP M A σ γ ∧ RP M A σ γ ∧ AP M A (gG γ (2, 0)) (gMD γ).length (sK σ).length b ∧ GS σ
section REP
variable {M M1 : hx_S} {A : hA} {Γ : hG} {σ : hs_S} {γ : hf_S} {b n : Nat} {r0 : Nat × Nat} {cs : Nat → Nat → Prop} {qs rs is : Nat → Prop}
theorem act_n0 {r : Nat × Nat} (h : act n γ r) : r.1 = 2 ∨ r.1 = 3 ∨ r.1 = 6 ∨ r.1 = 7 := by
  rcases h with h | h | h | h
  · rw [h]; exact Or.inl rfl
  · rw [h]; exact Or.inr (Or.inl rfl)
  · exact Or.inr (Or.inr (Or.inl h.1))
  · exact Or.inr (Or.inr (Or.inr h.1))
theorem OV.ext {nv w : Nat} {o : Option V2} (h : OV M nv w o) (e : Ext M M1 cs qs rs is) (h9 : ∀ x, ¬ cs 9 x) : OV M1 nv w o := by
  rcases h with h | ⟨v, h1, h2, h3⟩
  · exact Or.inl h
  · exact Or.inr ⟨v, h1, e.so h2 (h9 w), h3⟩
theorem FRM.ext {ro : Nat → Nat × Nat} {nv f na : Nat} {c : Int32} {t : Nat → Option V2} (h : FRM M ro nv f na c t) (e : Ext M M1 cs qs rs is) (h9 : ∀ x, ¬ cs 9 x) (h5 : ¬ cs 5 f) (hr : ∀ x, rs x → ro x ≠ (8, f)) : FRM M1 ro nv f na c t := by
  obtain ⟨va, w0, w1, w2, k1, k2, k3, k4, k5, k6⟩ := h
  exact ⟨va, w0, w1, w2, k1, e.so k2 h5, e.2.2.1 _ _ _ k3 (fun z => hr va z k1), k4.ext e h9, k5.ext e h9, k6.ext e h9⟩
theorem GP.ext (h : GP M A Γ σ γ) (e : Ext M M1 cs qs rs is) (h7 : ∀ x, ¬ cs 7 x) (h1 : ∀ x, ¬ cs 1 x) (hq : ∀ x, qs x → (gro γ x).1 ≠ 0 ∧ (gro γ x).1 ≠ 5) : GP M1 A Γ σ γ := by
  obtain ⟨k1, k2, k3⟩ := h
  refine ⟨e.lq k1 (fun z => (hq _ z).1 (by rw [k2])), k2, fun i x hi => ?_⟩
  obtain ⟨m1, m2, ys, m3, m4, m5⟩ := k3 i x hi
  exact ⟨e.so m1 (h7 _), m2, ys, e.lq m3 (fun z => (hq _ z).2 (by rw [m2])), m4, fun k a q u v => e.so (m5 k a q u v) (h1 _)⟩
theorem HF.ext (h : HF M A Γ n γ) (e : Ext M M1 cs qs rs is) (h9 : ∀ x, ¬ cs 9 x) (h5 : ∀ x, ¬ cs 5 x) (h6 : ∀ x, ¬ cs 6 x) (hr : ∀ x, rs x → (gro γ x).1 ≠ 8) (hq : ∀ x, qs x → (gro γ x).1 = 0 ∨ (gro γ x).1 = 4 ∨ (gro γ x).1 = 5) : HF M1 A Γ n γ := by
  obtain ⟨⟨k1, k2⟩, k3, k4, k5, k6⟩ := h
  refine ⟨⟨e.lq k1 (fun z => by have := hq _ z; rw [k2] at this; omega), k2⟩, fun r hr0 => ?_, fun f hf => (k4 f hf).ext e h9 (h5 f) (fun x hx hy => hr x hx (by rw [hy])), e.so k5 (h6 _), e.so k6 (h9 _)⟩
  obtain ⟨m1, m2⟩ := k3 r hr0
  exact ⟨e.lq m1 (fun z => by have := hq _ z; rw [m2] at this; have := act_n0 hr0; omega), m2⟩
theorem EP.ext (h : EP M A σ γ) (e : Ext M M1 cs qs rs is) (h9 : ∀ x, ¬ cs 9 x) (h3 : ∀ x, ¬ cs 3 x) (h2 : ∀ x, ¬ cs 2 x) (hr : ∀ x, rs x → (gro γ x).1 ≠ 12) (hi : ∀ x, is x → gro γ x ≠ (11, 3)) : EP M1 A σ γ := by
  obtain ⟨k1, ⟨k2, k3⟩, ⟨fl, k4, k5⟩, k6, k7, k8⟩ := h
  refine ⟨e.so k1 (h3 _), ⟨e.2.2.1 _ _ _ k2 (fun z => hr _ z (by rw [k3])), k3⟩, ⟨fl, e.2.2.2.1 _ _ k4 (fun z => hi _ z k6.1), k5⟩, k6, fun c a hc => ?_, k8⟩
  obtain ⟨m1, m2, w, m3, m4⟩ := k7 c a hc
  exact ⟨m1, m2, w, e.so m3 (h2 _), m4.ext e h9⟩
theorem RP.ext (h : RP M A σ γ) (e : Ext M M1 cs qs rs is) (h9 : ∀ x, ¬ cs 9 x) (h8 : ∀ x, ¬ cs 8 x) (hq : ∀ x, qs x → (gro γ x).1 ≠ 4) : RP M1 A σ γ := by
  obtain ⟨k0, xs, k1, k2, k3⟩ := h
  refine ⟨k0, xs, e.lq k1 (fun z => hq _ z (by rw [k0])), k2, fun k a x u v => ?_⟩
  obtain ⟨w, m1, m2⟩ := k3 k a x u v
  exact ⟨w, e.so m1 (h8 _), e.so m2 (h9 _)⟩
theorem CX.ext {cx co c2 cr : Nat} {L : List T3} (h : CX M cx co c2 cr L) (e : Ext M M1 cs qs rs is) (h4 : ∀ x, ¬ cs 4 x) (hi : ¬ is co ∧ ¬ is c2 ∧ ¬ is cr) : CX M1 cx co c2 cr L := by
  obtain ⟨k1, ⟨fo, fs, fr, k2, k3, k4, k5⟩, k6⟩ := h
  exact ⟨e.so k1 (h4 _), ⟨fo, fs, fr, e.2.2.2.1 _ _ k2 hi.1, e.2.2.2.1 _ _ k3 hi.2.1, e.2.2.2.1 _ _ k4 hi.2.2, k5⟩, k6⟩
/-- a list of frames has changed -/
theorem HF.list (h : HF M A Γ n γ) (e : Ext M M1 no2 (fun x => x = ad A Γ γ r0) no1 no1) {l : List Nat} (h0 : act n γ r0) (hl : LQ M1 (ad A Γ γ r0) l) : HF M1 A Γ n (wG γ (fun r => if r = r0 then l else gG γ r)) := by
  obtain ⟨⟨k1, k2⟩, k3, k4, k5, k6⟩ := h
  have e0 := (k3 r0 h0).2
  have n0 := act_n0 h0
  refine ⟨⟨e.lq k1 (fun z => by rw [z, e0] at k2; rw [k2] at n0; revert n0; decide), k2⟩, fun r hr => ?_, fun f hf => (k4 f hf).ext e (fun _ => id) id (fun _ => False.elim), e.so k5 id, e.so k6 id⟩
  have hr' : act n γ r := hr
  obtain ⟨m1, m2⟩ := k3 r hr'
  refine ⟨?_, m2⟩
  show LQ M1 (ad A Γ γ r) (if r = r0 then l else gG γ r)
  by_cases hrr : r = r0
  · rw [if_pos hrr, hrr]; exact hl
  · rw [if_neg hrr]; exact e.lq m1 (fun z => hrr (by rw [← m2, ← e0, z]))
/-- a frame has changed -/
theorem HF.frame (h : HF M A Γ n γ) {f va na : Nat} {c : Int32} {t : Nat → Option V2} (e : Ext M M1 (fun c' x => c' = 5 ∧ x = f) no1 (fun x => x = va) no1) (hva : gro γ va = (8, f)) (hf : FRM M1 (gro γ) (aV A) f na c t) : HF M1 A Γ n (wft (wfc (wna γ (fun x => if x = f then na else gna γ x)) (fun x => if x = f then c else gfc γ x)) (fun x => if x = f then t else gft γ x)) := by
  obtain ⟨⟨k1, k2⟩, k3, k4, k5, k6⟩ := h
  refine ⟨⟨e.lq k1 id, k2⟩, fun r hr => ?_, fun g hg => ?_, e.so k5 (fun z => absurd z.1 (by decide)), e.so k6 (fun z => absurd z.1 (by decide))⟩
  · have hr' : act n γ r := hr
    obtain ⟨m1, m2⟩ := k3 r hr'
    exact ⟨e.lq m1 id, m2⟩
  · show FRM M1 (gro γ) (aV A) g (if g = f then na else gna γ g) (if g = f then c else gfc γ g) (if g = f then t else gft γ g)
    by_cases hgf : g = f
    · rw [if_pos hgf, if_pos hgf, if_pos hgf, hgf]; exact hf
    · rw [if_neg hgf, if_neg hgf, if_neg hgf]
      exact (k4 g hg).ext e (fun _ z => absurd z.1 (by decide)) (fun z => hgf z.2) (fun x hx hy => hgf (by rw [hx, hva] at hy; exact (Prod.mk.inj hy).2.symm))
end REP
end
section
/-! MOVES OF FRAMES: what the frames mean, as one goes from place to place -/
/-- f is in nobody's list -/
def fly (γ : hf_S) (f : Nat) : Prop := f ∈ gMD γ ∧ gpl γ f = (4, 0)
/-- list r0 is l now, f stands at r1 -/
def mv (γ : hf_S) (r0 : Nat × Nat) (l : List Nat) (f : Nat) (r1 : Nat × Nat) : hf_S := wpl (wG γ (fun r => if r = r0 then l else gG γ r)) (fun x => if x = f then r1 else gpl γ x)
/-- f holds this now -/
def fill (γ : hf_S) (f na : Nat) (c : Int32) (t : Nat → Option V2) : hf_S := wft (wfc (wna γ (fun x => if x = f then na else gna γ x)) (fun x => if x = f then c else gfc γ x)) (fun x => if x = f then t else gft γ x)
/-- at node i in context c now t waits -/
def tset (T : Nat → Nat → Nat → Option V2) (i c : Nat) (t : Nat → Option V2) : Nat → Nat → Nat → Option V2 := fun j d => if j = i ∧ d = c then t else T j d
theorem map_erase {α β : Type} (g : α → β) (l : List α) (k : Nat) : (l.eraseIdx k).map g = (l.map g).eraseIdx k := by
  induction l generalizing k with
  | nil => rfl
  | cons x xs ih =>
    cases k with
    | zero => rfl
    | succ k => show g x :: (xs.eraseIdx k).map g = g x :: (xs.map g).eraseIdx k; rw [ih]
section PFM
variable {Γ : hG} {σ : hs_S} {γ : hf_S} {f : Nat} {r0 r1 : Nat × Nat} {l : List Nat}
theorem fly.out {n : Nat} (h : PF Γ σ γ) (hf : fly γ f) {r : Nat × Nat} (hr : act (sN σ).length γ r) : f ∉ gG γ r := fun z => by
  have k := ((h.2.1 r hr).2 f z).2
  rw [hf.2] at k
  have := act_n0 hr
  rw [← k] at this
  revert this; decide
theorem mv_G (r : Nat × Nat) : gG (mv γ r0 l f r1) r = if r = r0 then l else gG γ r := rfl
theorem mv_pl (x : Nat) : gpl (mv γ r0 l f r1) x = if x = f then r1 else gpl γ x := rfl
theorem act_mv {n : Nat} {r : Nat × Nat} : act n (mv γ r0 l f r1) r ↔ act n γ r := Iff.rfl
theorem eraseIdx_mem {k : Nat} (hn : l.Nodup) (hk : l[k]? = some f) : f ∉ l.eraseIdx k ∧ (l.eraseIdx k).Nodup ∧ ∀ x, x ∈ l.eraseIdx k → x ∈ l := by
  refine ⟨fun z => ?_, hn.sublist (List.eraseIdx_sublist l k), fun x hx => (List.eraseIdx_sublist l k).subset hx⟩
  obtain ⟨hk1, hk2⟩ := List.getElem?_eq_some_iff.mp hk
  rw [List.mem_eraseIdx_iff_getElem] at z
  obtain ⟨j, hj, hne, he⟩ := z
  exact hne ((List.getElem_inj hn).mp (he.trans hk2.symm))
/-- the second part of PF, as f leaves list r0 -/
theorem pf_leave (h : PF Γ σ γ) (h0 : act (sN σ).length γ r0) {k : Nat} (hk : (gG γ r0)[k]? = some f) : ∀ r, act (sN σ).length γ r → ((gG (mv γ r0 ((gG γ r0).eraseIdx k) f (4, 0)) r)).Nodup ∧ ∀ g, g ∈ gG (mv γ r0 ((gG γ r0).eraseIdx k) f (4, 0)) r → g ∈ gMD γ ∧ gpl (mv γ r0 ((gG γ r0).eraseIdx k) f (4, 0)) g = r := by
  intro r hr
  have hfm : f ∈ gG γ r0 := List.mem_of_getElem? hk
  obtain ⟨e1, e2, e3⟩ := eraseIdx_mem (h.2.1 r0 h0).1 hk
  rw [mv_G]
  by_cases hrr : r = r0
  · rw [if_pos hrr]
    refine ⟨e2, fun g hg => ⟨((h.2.1 r0 h0).2 g (e3 g hg)).1, ?_⟩⟩
    rw [mv_pl, if_neg (show ¬ g = f from fun z => e1 (z ▸ hg)), hrr]
    exact ((h.2.1 r0 h0).2 g (e3 g hg)).2
  · rw [if_neg hrr]
    refine ⟨(h.2.1 r hr).1, fun g hg => ⟨((h.2.1 r hr).2 g hg).1, ?_⟩⟩
    have hp := ((h.2.1 r hr).2 g hg).2
    rw [mv_pl, if_neg (fun z => hrr ?_)]
    · exact hp
    · rw [← hp, z]; exact ((h.2.1 r0 h0).2 f hfm).2
/-- the same, as f comes to list r0 from nowhere -/
theorem pf_enter (h : PF Γ σ γ) (h0 : act (sN σ).length γ r0) (hf : fly γ f) : ∀ r, act (sN σ).length γ r → ((gG (mv γ r0 (gG γ r0 ++ [f]) f r0) r)).Nodup ∧ ∀ g, g ∈ gG (mv γ r0 (gG γ r0 ++ [f]) f r0) r → g ∈ gMD γ ∧ gpl (mv γ r0 (gG γ r0 ++ [f]) f r0) g = r := by
  intro r hr
  have ho := fly.out (n := 0) h hf hr
  rw [mv_G]
  by_cases hrr : r = r0
  · rw [if_pos hrr]
    rw [hrr] at ho
    refine ⟨List.nodup_append.mpr ⟨(h.2.1 r0 h0).1, by simp, fun a ha b hb => ?_⟩, fun g hg => ?_⟩
    · simp at hb; rw [hb]; exact fun z => ho (z ▸ ha)
    · rcases List.mem_append.mp hg with hg | hg
      · rw [mv_pl, if_neg (show ¬ g = f from fun z => ho (z ▸ hg)), hrr]
        exact (h.2.1 r0 h0).2 g hg
      · simp at hg
        rw [mv_pl, if_pos hg, hrr, hg]
        exact ⟨hf.1, rfl⟩
  · rw [if_neg hrr]
    refine ⟨(h.2.1 r hr).1, fun g hg => ⟨((h.2.1 r hr).2 g hg).1, ?_⟩⟩
    rw [mv_pl, if_neg (show ¬ g = f from fun z => ho (z ▸ hg))]
    exact ((h.2.1 r hr).2 g hg).2
theorem kf_same {σ' : hs_S} (h : sK σ' = sK σ) (c : Nat) : kf σ' c = kf σ c := by unfold kf; rw [h]
/-- out of the free ones -/
theorem PF.unfree (h : PF Γ σ γ) {k : Nat} (hk : (gG γ (2, 0))[k]? = some f) : PF Γ σ (mv γ (2, 0) ((gG γ (2, 0)).eraseIdx k) f (4, 0)) := by
  obtain ⟨h1, h2, h3, h4, h5, h6, h7⟩ := id h
  refine ⟨h1, pf_leave h (Or.inl rfl) hk, fun g hg => h3 g ?_, h4, h5, h6, h7⟩
  exact (List.eraseIdx_sublist _ k).subset hg
/-- to the free ones -/
theorem PF.free (h : PF Γ σ γ) (hf : fly γ f) (ht : gft γ f = no3) : PF Γ σ (mv γ (2, 0) (gG γ (2, 0) ++ [f]) f (2, 0)) := by
  obtain ⟨h1, h2, h3, h4, h5, h6, h7⟩ := id h
  refine ⟨h1, pf_enter h (Or.inl rfl) hf, fun g hg => ?_, h4, h5, h6, h7⟩
  rcases List.mem_append.mp (show g ∈ gG γ (2, 0) ++ [f] from hg) with hg | hg
  · exact h3 g hg
  · simp at hg; rw [hg]; exact ht
/-- out of the ready ones -/
theorem PF.unready (h : PF Γ σ γ) {k : Nat} (hk : (gG γ (3, 0))[k]? = some f) : PF Γ (uR σ ((sR σ).eraseIdx k)) (mv γ (3, 0) ((gG γ (3, 0)).eraseIdx k) f (4, 0)) := by
  obtain ⟨h1, h2, h3, h4, h5, h6, h7⟩ := id h
  refine ⟨h1, pf_leave h (Or.inr (Or.inl rfl)) hk, h3, h4, ?_, h6, h7⟩
  show ((sR σ).eraseIdx k).map _ = ((gG γ (3, 0)).eraseIdx k).map _
  rw [map_erase, h5, ← map_erase]
  rfl
/-- to the ready ones -/
theorem PF.ready (h : PF Γ σ γ) (hf : fly γ f) {i c : Nat} {t : Nat → Option V2} (ht : gna γ f = nad Γ i ∧ gfc γ f = nI c ∧ gft γ f = t) : PF Γ (uR σ (sR σ ++ [(i, c, t)])) (mv γ (3, 0) (gG γ (3, 0) ++ [f]) f (3, 0)) := by
  obtain ⟨h1, h2, h3, h4, h5, h6, h7⟩ := id h
  refine ⟨h1, pf_enter h (Or.inr (Or.inl rfl)) hf, h3, h4, ?_, h6, h7⟩
  show (sR σ ++ [(i, c, t)]).map _ = (gG γ (3, 0) ++ [f]).map _
  rw [List.map_append, List.map_append, h5]
  show _ ++ [(nad Γ i, nI c, t)] = _ ++ [(gna γ f, gfc γ f, gft γ f)]
  rw [ht.1, ht.2.1, ht.2.2]
  rfl
/-- to those that wait, with nothing yet -/
theorem PF.wait (h : PF Γ σ γ) (hf : fly γ f) {i c : Nat} (hi : i < (sN σ).length) (hc : c < 151) (ht : gna γ f = nad Γ i ∧ gfc γ f = nI c ∧ gft γ f = no3) (hno : ∀ g, g ∈ gG γ (6, i) → gfc γ g ≠ nI c) : PF Γ σ (mv γ (6, i) (gG γ (6, i) ++ [f]) f (6, i)) := by
  obtain ⟨h1, h2, h3, h4, h5, h6, h7⟩ := id h
  have hT : sT σ i c = no3 := by
    rcases (h4 i hi).2.2 c hc with ⟨g, hg, hg2⟩ | h
    · exact absurd hg2 (hno g hg)
    · exact h
  refine ⟨h1, pf_enter h (Or.inr (Or.inr (Or.inl ⟨rfl, hi⟩))) hf, h3, fun j hj => ?_, h5, fun c' hc' => ?_, h7⟩
  · rw [mv_G]
    by_cases hji : j = i
    · subst hji
      rw [if_pos rfl]
      refine ⟨fun g hg => ?_, fun g g' hg hg' hgg => ?_, fun d hd => ?_⟩
      · rcases List.mem_append.mp hg with hg | hg
        · exact (h4 j hj).1 g hg
        · simp at hg; subst hg
          exact ⟨ht.1, c, hc, ht.2.1, ht.2.2.trans hT.symm⟩
      · rcases List.mem_append.mp hg with hq | hq
        · rcases List.mem_append.mp hg' with hq' | hq'
          · exact (h4 j hj).2.1 g g' hq hq' hgg
          · simp at hq'
            exact absurd (hgg.trans (hq' ▸ ht.2.1)) (hno g hq)
        · simp at hq
          rcases List.mem_append.mp hg' with hq' | hq'
          · exact absurd (hgg.symm.trans (hq ▸ ht.2.1)) (hno g' hq')
          · simp at hq'; rw [hq, hq']
      · rcases (h4 j hj).2.2 d hd with ⟨g, hg, hg2⟩ | h
        · exact Or.inl ⟨g, List.mem_append_left _ hg, hg2⟩
        · exact Or.inr h
    · rw [if_neg (fun z => hji (Prod.mk.inj z).2)]
      exact h4 j hj
  · exact h6 c' hc'
/-- out of those that wait: what waited there is gone -/
theorem PF.unwait (h : PF Γ σ γ) {i c k : Nat} (hi : i < (sN σ).length) (hc : c < 151) (hk : (gG γ (6, i))[k]? = some f) (hfc : gfc γ f = nI c) : PF Γ (uT σ (tset (sT σ) i c no3)) (mv γ (6, i) ((gG γ (6, i)).eraseIdx k) f (4, 0)) := by
  obtain ⟨h1, h2, h3, h4, h5, h6, h7⟩ := id h
  have h0 : act (sN σ).length γ (6, i) := Or.inr (Or.inr (Or.inl ⟨rfl, hi⟩))
  obtain ⟨e1, e2, e3⟩ := eraseIdx_mem (h.2.1 _ h0).1 hk
  have hfm : f ∈ gG γ (6, i) := List.mem_of_getElem? hk
  refine ⟨h1, pf_leave h h0 hk, h3, fun j hj => ?_, h5, h6, h7⟩
  rw [mv_G]
  show _ ∧ _ ∧ ∀ d, d < 151 → _ ∨ tset (sT σ) i c no3 j d = no3
  by_cases hji : j = i
  · subst hji
    rw [if_pos rfl]
    refine ⟨fun g hg => ?_, fun g g' hg hg' hgg => (h4 j hj).2.1 g g' (e3 g hg) (e3 g' hg') hgg, fun d hd => ?_⟩
    · obtain ⟨m1, d, m2, m3, m4⟩ := (h4 j hj).1 g (e3 g hg)
      refine ⟨m1, d, m2, m3, ?_⟩
      show gft γ g = tset (sT σ) j c no3 j d
      unfold tset
      rw [if_neg (fun z => e1 ?_)]
      · exact m4
      · have : g = f := (h4 j hj).2.1 g f (e3 g hg) hfm (by rw [m3, hfc, z.2])
        exact this ▸ hg
    · by_cases hdc : d = c
      · exact Or.inr (by unfold tset; rw [if_pos ⟨rfl, hdc⟩])
      · rcases (h4 j hj).2.2 d hd with ⟨g, hg, hg2⟩ | h
        · refine Or.inl ⟨g, ?_, hg2⟩
          obtain ⟨q, hq, hqe⟩ := List.mem_iff_getElem.mp hg
          refine List.mem_eraseIdx_iff_getElem.mpr ⟨q, hq, fun z => hdc ?_, hqe⟩
          obtain ⟨hk1, hk2⟩ := List.getElem?_eq_some_iff.mp hk
          subst z
          have : g = f := hqe.symm.trans hk2
          rw [this, hfc] at hg2
          exact ((nI_eq (by omega) (by omega)).mp hg2).symm
        · exact Or.inr (by unfold tset; rw [if_neg (fun z => hdc z.2)]; exact h)
  · rw [if_neg (fun z => hji (Prod.mk.inj z).2)]
    have hT : ∀ d, tset (sT σ) i c no3 j d = sT σ j d := fun d => by unfold tset; rw [if_neg (fun z => hji z.1)]
    refine ⟨fun g hg => ?_, (h4 j hj).2.1, fun d hd => by rw [hT]; exact (h4 j hj).2.2 d hd⟩
    obtain ⟨m1, d, m2, m3, m4⟩ := (h4 j hj).1 g hg
    exact ⟨m1, d, m2, m3, m4.trans (hT d).symm⟩
/-- a frame that waits is filled -/
theorem PF.put (h : PF Γ σ γ) {i c : Nat} {t : Nat → Option V2} (hi : i < (sN σ).length) (hc : c < 151) (hf : f ∈ gG γ (6, i)) (hfc : gfc γ f = nI c) : PF Γ (uT σ (tset (sT σ) i c t)) (fill γ f (gna γ f) (gfc γ f) t) := by
  obtain ⟨h1, h2, h3, h4, h5, h6, h7⟩ := id h
  have h0 : act (sN σ).length γ (6, i) := Or.inr (Or.inr (Or.inl ⟨rfl, hi⟩))
  have hp := ((h2 _ h0).2 f hf).2
  have hne : ∀ r, act (sN σ).length γ r → r ≠ (6, i) → ∀ g, g ∈ gG γ r → g ≠ f := fun r hr hrr g hg z => hrr (by rw [← ((h2 r hr).2 g hg).2, z, hp])
  have hna : ∀ g, gna (fill γ f (gna γ f) (gfc γ f) t) g = gna γ g := fun g => by
    show (if g = f then gna γ f else gna γ g) = _
    split
    · next z => rw [z]
    · rfl
  have hfc2 : ∀ g, gfc (fill γ f (gna γ f) (gfc γ f) t) g = gfc γ g := fun g => by
    show (if g = f then gfc γ f else gfc γ g) = _
    split
    · next z => rw [z]
    · rfl
  have hft : ∀ g, g ≠ f → gft (fill γ f (gna γ f) (gfc γ f) t) g = gft γ g := fun g z => by
    show (if g = f then t else gft γ g) = _
    rw [if_neg z]
  have hmap : ∀ r, act (sN σ).length γ r → r ≠ (6, i) → (gG γ r).map (fun g => (gna (fill γ f (gna γ f) (gfc γ f) t) g, gfc (fill γ f (gna γ f) (gfc γ f) t) g, gft (fill γ f (gna γ f) (gfc γ f) t) g)) = (gG γ r).map (fun g => (gna γ g, gfc γ g, gft γ g)) := fun r hr hrr => List.map_congr_left (fun g hg => by rw [hna, hfc2, hft g (hne r hr hrr g hg)])
  refine ⟨h1, h2, fun g hg => ?_, fun j hj => ?_, ?_, fun c' hc' => ?_, h7⟩
  · rw [hft g (hne (2, 0) (Or.inl rfl) (by simp) g hg)]; exact h3 g hg
  · show _ ∧ _ ∧ ∀ d, d < 151 → (∃ g, g ∈ gG γ (6, j) ∧ _) ∨ tset (sT σ) i c t j d = no3
    refine ⟨fun g hg => ?_, fun g g' hg hg' hgg => ?_, fun d hd => ?_⟩
    · have hg' : g ∈ gG γ (6, j) := hg
      obtain ⟨m1, d, m2, m3, m4⟩ := (h4 j hj).1 g hg'
      refine ⟨(hna g).trans m1, d, m2, (hfc2 g).trans m3, ?_⟩
      show gft (fill γ f (gna γ f) (gfc γ f) t) g = tset (sT σ) i c t j d
      unfold tset
      by_cases hgf : g = f
      · subst hgf
        have hji : j = i := (Prod.mk.inj ((((h2 _ (Or.inr (Or.inr (Or.inl ⟨rfl, hj⟩)))).2 g hg').2).symm.trans hp)).2
        have hdc : d = c := (nI_eq (by omega) (by omega)).mp (m3.symm.trans hfc)
        rw [if_pos ⟨hji, hdc⟩]
        show (if g = g then t else gft γ g) = t
        rw [if_pos rfl]
      · rw [hft g hgf, m4, if_neg (fun z => hgf ?_)]
        obtain ⟨rfl, rfl⟩ := z
        exact (h4 j hj).2.1 g f hg' hf (m3.trans hfc.symm)
    · rw [hfc2, hfc2] at hgg
      exact (h4 j hj).2.1 g g' hg hg' hgg
    · by_cases hz : j = i ∧ d = c
      · obtain ⟨rfl, rfl⟩ := hz
        exact Or.inl ⟨f, hf, (hfc2 f).trans hfc⟩
      · rcases (h4 j hj).2.2 d hd with ⟨g, hg, hg2⟩ | h
        · exact Or.inl ⟨g, hg, (hfc2 g).trans hg2⟩
        · exact Or.inr (by unfold tset; rw [if_neg hz]; exact h)
  · exact h5.trans (hmap (3, 0) (Or.inr (Or.inl rfl)) (by simp)).symm
  · exact (h6 c' hc').trans (hmap (7, c') (Or.inr (Or.inr (Or.inr ⟨rfl, hc'⟩))) (by simp)).symm
/-- a frame in flight is filled -/
theorem PF.flown (h : PF Γ σ γ) (hf : fly γ f) {na : Nat} {c : Int32} {t : Nat → Option V2} : PF Γ σ (fill γ f na c t) := by
  obtain ⟨h1, h2, h3, h4, h5, h6, h7⟩ := id h
  have hne : ∀ r, act (sN σ).length γ r → ∀ g, g ∈ gG γ r → g ≠ f := fun r hr g hg z => fly.out (n := 0) h hf hr (z ▸ hg)
  have hna : ∀ g, g ≠ f → gna (fill γ f na c t) g = gna γ g := fun g z => by show (if g = f then na else gna γ g) = _; rw [if_neg z]
  have hfc : ∀ g, g ≠ f → gfc (fill γ f na c t) g = gfc γ g := fun g z => by show (if g = f then c else gfc γ g) = _; rw [if_neg z]
  have hft : ∀ g, g ≠ f → gft (fill γ f na c t) g = gft γ g := fun g z => by show (if g = f then t else gft γ g) = _; rw [if_neg z]
  have hmap : ∀ r, act (sN σ).length γ r → (gG γ r).map (fun g => (gna (fill γ f na c t) g, gfc (fill γ f na c t) g, gft (fill γ f na c t) g)) = (gG γ r).map (fun g => (gna γ g, gfc γ g, gft γ g)) := fun r hr => List.map_congr_left (fun g hg => by rw [hna g (hne r hr g hg), hfc g (hne r hr g hg), hft g (hne r hr g hg)])
  refine ⟨h1, h2, fun g hg => ?_, fun j hj => ?_, h5.trans (hmap (3, 0) (Or.inr (Or.inl rfl))).symm, fun c' hc' => (h6 c' hc').trans (hmap (7, c') (Or.inr (Or.inr (Or.inr ⟨rfl, hc'⟩)))).symm, h7⟩
  · rw [hft g (hne (2, 0) (Or.inl rfl) g hg)]; exact h3 g hg
  · have hj6 : act (sN σ).length γ (6, j) := Or.inr (Or.inr (Or.inl ⟨rfl, hj⟩))
    refine ⟨fun g hg => ?_, fun g g' hg hg' hgg => ?_, fun d hd => ?_⟩
    · rw [hna g (hne _ hj6 g hg), hfc g (hne _ hj6 g hg), hft g (hne _ hj6 g hg)]; exact (h4 j hj).1 g hg
    · rw [hfc g (hne _ hj6 g hg), hfc g' (hne _ hj6 g' hg')] at hgg
      exact (h4 j hj).2.1 g g' hg hg' hgg
    · rcases (h4 j hj).2.2 d hd with ⟨g, hg, hg2⟩ | h
      · exact Or.inl ⟨g, hg, (hfc g (hne _ hj6 g hg)).trans hg2⟩
      · exact Or.inr h
/-- a frame more is made -/
theorem PF.new (h : PF Γ σ γ) (hf : f ∉ gMD γ) : PF Γ σ (wpl (wMD γ (gMD γ ++ [f])) (fun x => if x = f then (4, 0) else gpl γ x)) := by
  obtain ⟨h1, h2, h3, h4, h5, h6, h7⟩ := id h
  refine ⟨?_, fun r hr => ?_, h3, h4, h5, h6, h7⟩
  · show (gMD γ ++ [f]).Nodup
    exact List.nodup_append.mpr ⟨h1, by simp, fun a ha b hb => by simp at hb; rw [hb]; exact fun z => hf (z ▸ ha)⟩
  · have hr' : act (sN σ).length γ r := hr
    refine ⟨(h2 r hr').1, fun g hg => ⟨List.mem_append_left _ ((h2 r hr').2 g hg).1, ?_⟩⟩
    show (if g = f then (4, 0) else gpl γ g) = r
    rw [if_neg (show ¬ g = f from fun z => hf (z ▸ ((h2 r hr').2 g hg).1))]
    exact ((h2 r hr').2 g hg).2
/-- to those kept for cell d -/
theorem PF.keep (h : PF Γ σ γ) (hf : fly γ f) {i c d a : Nat} (hd : gcd γ d = some a) (ht : gna γ f = nad Γ i ∧ gfc γ f = nI c ∧ gft γ f = no3) : PF Γ (uK σ (sK σ ++ [(i, c, d)])) (mv γ (7, d) (gG γ (7, d) ++ [f]) f (7, d)) := by
  obtain ⟨h1, h2, h3, h4, h5, h6, h7⟩ := id h
  have hk : ∀ e, kf (uK σ (sK σ ++ [(i, c, d)])) e = kf σ e ++ (if d = e then [(i, c, d)] else []) := fun e => by
    unfold kf
    show (sK σ ++ [(i, c, d)]).filter _ = _
    rw [List.filter_append]
    congr 1
    by_cases hde : d = e
    · rw [if_pos hde]; simp [hde]
    · rw [if_neg hde]; simp [hde]
  refine ⟨h1, pf_enter h (Or.inr (Or.inr (Or.inr ⟨rfl, a, hd⟩))) hf, h3, h4, h5, fun e he => ?_, fun e he => ?_⟩
  · rw [hk, mv_G]
    by_cases hde : d = e
    · subst hde
      rw [if_pos rfl, if_pos rfl, List.map_append, List.map_append, h6 d he]
      show _ ++ [(nad Γ i, nI c, no3)] = _ ++ [(gna γ f, gfc γ f, gft γ f)]
      rw [ht.1, ht.2.1, ht.2.2]
      rfl
    · rw [if_neg hde, if_neg (fun z => hde (Prod.mk.inj z).2.symm), List.append_nil]
      exact h6 e he
  · rw [hk, if_neg (fun z => by rw [← z] at he; have he' : gcd γ d = none := he; rw [hd] at he'; cases he'), List.append_nil]
    exact h7 e he
/-- the first of those kept for cell d goes -/
def kdrop (d : Nat) : List (Nat × Nat × Nat) → List (Nat × Nat × Nat)
  | [] => []
  | x :: xs => if x.2.2 == d then xs else x :: kdrop d xs
theorem kdrop_f (d e : Nat) (l : List (Nat × Nat × Nat)) : (kdrop d l).filter (fun x => x.2.2 == e) = if d = e then (l.filter (fun x => x.2.2 == e)).eraseIdx 0 else l.filter (fun x => x.2.2 == e) := by
  induction l with
  | nil => simp [kdrop]
  | cons x xs ih =>
    unfold kdrop
    by_cases hx : x.2.2 = d
    · rw [if_pos (by simp [hx])]
      by_cases hde : d = e
      · rw [if_pos hde, List.filter_cons_of_pos (by simp [hx, hde])]; rfl
      · rw [if_neg hde, List.filter_cons_of_neg (by simp [hx, hde])]
    · rw [if_neg (by simp [hx])]
      by_cases hxe : x.2.2 = e
      · rw [List.filter_cons_of_pos (by simp [hxe]), List.filter_cons_of_pos (by simp [hxe]), ih, if_neg (fun z => hx (hxe.trans z.symm)), if_neg (fun z => hx (hxe.trans z.symm))]
      · rw [List.filter_cons_of_neg (by simp [hxe]), List.filter_cons_of_neg (by simp [hxe]), ih]
theorem PF.unkeep (h : PF Γ σ γ) {d a : Nat} (hd : gcd γ d = some a) (hk : (gG γ (7, d))[0]? = some f) : PF Γ (uK σ (kdrop d (sK σ))) (mv γ (7, d) ((gG γ (7, d)).eraseIdx 0) f (4, 0)) := by
  obtain ⟨h1, h2, h3, h4, h5, h6, h7⟩ := id h
  have hkk : ∀ e, kf (uK σ (kdrop d (sK σ))) e = if d = e then (kf σ e).eraseIdx 0 else kf σ e := fun e => kdrop_f d e (sK σ)
  refine ⟨h1, pf_leave h (Or.inr (Or.inr (Or.inr ⟨rfl, a, hd⟩))) hk, h3, h4, h5, fun e he => ?_, fun e he => ?_⟩
  · rw [hkk, mv_G]
    by_cases hde : d = e
    · subst hde
      rw [if_pos rfl, if_pos rfl, map_erase, h6 d he, ← map_erase]
      rfl
    · rw [if_neg hde, if_neg (fun z => hde (Prod.mk.inj z).2.symm)]
      exact h6 e he
  · rw [hkk]
    by_cases hde : d = e
    · rw [← hde] at he; have he' : gcd γ d = none := he; rw [hd] at he'; cases he'
    · rw [if_neg hde]; exact h7 e he
end PFM
end
