/-- the words that every contract here takes: the good ones of the tables -/
def TW : List Cond := lw_tbl.filter goodWord
theorem TW_in : ∀ w ∈ TW, w ∈ lw_tbl := fun w h => (List.mem_filter.mp h).1
theorem TW_good : GoodIn TW TW := fun w h => ⟨h, good_of_word (List.mem_filter.mp h).2⟩
theorem tw_in {w : Cond} (i : Nat) (h : lw_tbl[i]? = some w) (g : goodWord w = true) : w ∈ TW := List.mem_filter.mpr ⟨List.mem_of_getElem? h, g⟩
theorem tw_0 : Jvm.Cond.selects "TokenHouse" ({ cls := "TokenHouse", name := "nodeAt", desc := "(I)LTokenHouse$Node;" } : Jvm.MethodName) ({ cls := "TokenHouse", name := "nodeAt", desc := "(I)LTokenHouse$Node;" } : Jvm.MethodName) ∈ TW := tw_in 0 (by decide +kernel) (by decide +kernel)
theorem tw_1 : Jvm.Cond.selects "java/util/ArrayList" ({ cls := "java/util/ArrayList", name := "add", desc := "(Ljava/lang/Object;[Ljava/lang/Object;I)V" } : Jvm.MethodName) ({ cls := "java/util/ArrayList", name := "add", desc := "(Ljava/lang/Object;[Ljava/lang/Object;I)V" } : Jvm.MethodName) ∈ TW := tw_in 1 (by decide +kernel) (by decide +kernel)
theorem tw_2 : Jvm.Cond.selects "java/util/ArrayList" ({ cls := "java/util/ArrayList", name := "grow", desc := "()[Ljava/lang/Object;" } : Jvm.MethodName) ({ cls := "java/util/ArrayList", name := "grow", desc := "()[Ljava/lang/Object;" } : Jvm.MethodName) ∈ TW := tw_in 2 (by decide +kernel) (by decide +kernel)
theorem tw_3 : Jvm.Cond.selects "java/util/ArrayList" ({ cls := "java/util/ArrayList", name := "grow", desc := "(I)[Ljava/lang/Object;" } : Jvm.MethodName) ({ cls := "java/util/ArrayList", name := "grow", desc := "(I)[Ljava/lang/Object;" } : Jvm.MethodName) ∈ TW := tw_in 3 (by decide +kernel) (by decide +kernel)
theorem tw_4 : Jvm.Cond.selects "TokenHouse" ({ cls := "TokenHouse", name := "come", desc := "(LTokenHouse$Node;ILTokenHouse$Value;I)V" } : Jvm.MethodName) ({ cls := "TokenHouse", name := "come", desc := "(LTokenHouse$Node;ILTokenHouse$Value;I)V" } : Jvm.MethodName) ∈ TW := tw_in 4 (by decide +kernel) (by decide +kernel)
theorem tw_5 : Jvm.Cond.selects "java/util/ArrayList" ({ cls := "java/util/ArrayList", name := "fastRemove", desc := "([Ljava/lang/Object;I)V" } : Jvm.MethodName) ({ cls := "java/util/ArrayList", name := "fastRemove", desc := "([Ljava/lang/Object;I)V" } : Jvm.MethodName) ∈ TW := tw_in 5 (by decide +kernel) (by decide +kernel)
theorem tw_6 : Jvm.Cond.selects "java/lang/Throwable" ({ cls := "java/lang/Throwable", name := "fillInStackTrace", desc := "(I)Ljava/lang/Throwable;" } : Jvm.MethodName) ({ cls := "java/lang/Throwable", name := "fillInStackTrace", desc := "(I)Ljava/lang/Throwable;" } : Jvm.MethodName) ∈ TW := tw_in 6 (by decide +kernel) (by decide +kernel)
theorem tw_7 : Jvm.Cond.selects "TokenHouse" ({ cls := "TokenHouse", name := "go", desc := "(LTokenHouse$Frame;)V" } : Jvm.MethodName) ({ cls := "TokenHouse", name := "go", desc := "(LTokenHouse$Frame;)V" } : Jvm.MethodName) ∈ TW := tw_in 7 (by decide +kernel) (by decide +kernel)
theorem tw_8 : Jvm.Cond.selects "TokenHouse" ({ cls := "TokenHouse", name := "give", desc := "(LTokenHouse$Node;LTokenHouse$Value;I)V" } : Jvm.MethodName) ({ cls := "TokenHouse", name := "give", desc := "(LTokenHouse$Node;LTokenHouse$Value;I)V" } : Jvm.MethodName) ∈ TW := tw_in 8 (by decide +kernel) (by decide +kernel)
theorem tw_9 : Jvm.Cond.selects "TokenHouse" ({ cls := "TokenHouse", name := "choose", desc := "(LTokenHouse$Node;ILTokenHouse$Value;LTokenHouse$Value;)V" } : Jvm.MethodName) ({ cls := "TokenHouse", name := "choose", desc := "(LTokenHouse$Node;ILTokenHouse$Value;LTokenHouse$Value;)V" } : Jvm.MethodName) ∈ TW := tw_in 9 (by decide +kernel) (by decide +kernel)
theorem tw_10 : Jvm.Cond.selects "TokenHouse" ({ cls := "TokenHouse", name := "giveOnSide", desc := "(LTokenHouse$Node;ILTokenHouse$Value;I)V" } : Jvm.MethodName) ({ cls := "TokenHouse", name := "giveOnSide", desc := "(LTokenHouse$Node;ILTokenHouse$Value;I)V" } : Jvm.MethodName) ∈ TW := tw_in 10 (by decide +kernel) (by decide +kernel)
theorem tw_11 : Jvm.Cond.selects "TokenHouse" ({ cls := "TokenHouse", name := "move", desc := "(LTokenHouse$Node;ILTokenHouse$Value;)V" } : Jvm.MethodName) ({ cls := "TokenHouse", name := "move", desc := "(LTokenHouse$Node;ILTokenHouse$Value;)V" } : Jvm.MethodName) ∈ TW := tw_in 11 (by decide +kernel) (by decide +kernel)
theorem tw_12 : Jvm.Cond.selects "TokenHouse" ({ cls := "TokenHouse", name := "contextBehind", desc := "(LTokenHouse$Node;I)I" } : Jvm.MethodName) ({ cls := "TokenHouse", name := "contextBehind", desc := "(LTokenHouse$Node;I)I" } : Jvm.MethodName) ∈ TW := tw_in 12 (by decide +kernel) (by decide +kernel)
theorem tw_13 : Jvm.Cond.selects "TokenHouse" ({ cls := "TokenHouse", name := "enterCall", desc := "(LTokenHouse$Node;ILTokenHouse$Value;)V" } : Jvm.MethodName) ({ cls := "TokenHouse", name := "enterCall", desc := "(LTokenHouse$Node;ILTokenHouse$Value;)V" } : Jvm.MethodName) ∈ TW := tw_in 13 (by decide +kernel) (by decide +kernel)
theorem tw_14 : Jvm.Cond.selects "TokenHouse" ({ cls := "TokenHouse", name := "leaveCall", desc := "(ILTokenHouse$Value;)V" } : Jvm.MethodName) ({ cls := "TokenHouse", name := "leaveCall", desc := "(ILTokenHouse$Value;)V" } : Jvm.MethodName) ∈ TW := tw_in 14 (by decide +kernel) (by decide +kernel)
theorem tw_15 : Jvm.Cond.selects "TokenHouse" ({ cls := "TokenHouse", name := "makeArray", desc := "(LTokenHouse$Node;IJ)V" } : Jvm.MethodName) ({ cls := "TokenHouse", name := "makeArray", desc := "(LTokenHouse$Node;IJ)V" } : Jvm.MethodName) ∈ TW := tw_in 15 (by decide +kernel) (by decide +kernel)
theorem tw_16 : Jvm.Cond.selects "TokenHouse" ({ cls := "TokenHouse", name := "fetch", desc := "(LTokenHouse$Node;ILTokenHouse$Cell;)V" } : Jvm.MethodName) ({ cls := "TokenHouse", name := "fetch", desc := "(LTokenHouse$Node;ILTokenHouse$Cell;)V" } : Jvm.MethodName) ∈ TW := tw_in 16 (by decide +kernel) (by decide +kernel)
theorem tw_17 : Jvm.Cond.selects "TokenHouse" ({ cls := "TokenHouse", name := "store", desc := "(LTokenHouse$Node;ILTokenHouse$Cell;LTokenHouse$Value;)V" } : Jvm.MethodName) ({ cls := "TokenHouse", name := "store", desc := "(LTokenHouse$Node;ILTokenHouse$Cell;LTokenHouse$Value;)V" } : Jvm.MethodName) ∈ TW := tw_in 17 (by decide +kernel) (by decide +kernel)
theorem tw_18 : Jvm.Cond.selects "TokenHouseModel" ({ cls := "TokenHouseModel", name := "raise", desc := "(I)I" } : Jvm.MethodName) ({ cls := "TokenHouseModel", name := "raise", desc := "(I)I" } : Jvm.MethodName) ∈ TW := tw_in 18 (by decide +kernel) (by decide +kernel)
theorem tw_19 : Jvm.Cond.selects "TokenHouseModel" ({ cls := "TokenHouseModel", name := "isNode", desc := "(I)Z" } : Jvm.MethodName) ({ cls := "TokenHouseModel", name := "isNode", desc := "(I)Z" } : Jvm.MethodName) ∈ TW := tw_in 19 (by decide +kernel) (by decide +kernel)
theorem tw_20 : Jvm.Cond.selects "TokenHouseModel" ({ cls := "TokenHouseModel", name := "comes", desc := "(IIIIJ)V" } : Jvm.MethodName) ({ cls := "TokenHouseModel", name := "comes", desc := "(IIIIJ)V" } : Jvm.MethodName) ∈ TW := tw_in 20 (by decide +kernel) (by decide +kernel)
theorem tw_21 : Jvm.Cond.selects "TokenHouseModel" ({ cls := "TokenHouseModel", name := "waits", desc := "(III)I" } : Jvm.MethodName) ({ cls := "TokenHouseModel", name := "waits", desc := "(III)I" } : Jvm.MethodName) ∈ TW := tw_in 21 (by decide +kernel) (by decide +kernel)
theorem tw_22 : Jvm.Cond.selects "TokenHouseModel" ({ cls := "TokenHouseModel", name := "gather", desc := "(II)V" } : Jvm.MethodName) ({ cls := "TokenHouseModel", name := "gather", desc := "(II)V" } : Jvm.MethodName) ∈ TW := tw_in 22 (by decide +kernel) (by decide +kernel)
theorem tw_23 : Jvm.Cond.selects "TokenHouseModel" ({ cls := "TokenHouseModel", name := "go", desc := "(I)V" } : Jvm.MethodName) ({ cls := "TokenHouseModel", name := "go", desc := "(I)V" } : Jvm.MethodName) ∈ TW := tw_in 23 (by decide +kernel) (by decide +kernel)
theorem tw_24 : Jvm.Cond.selects "TokenHouseModel" ({ cls := "TokenHouseModel", name := "take", desc := "(I)V" } : Jvm.MethodName) ({ cls := "TokenHouseModel", name := "take", desc := "(I)V" } : Jvm.MethodName) ∈ TW := tw_in 24 (by decide +kernel) (by decide +kernel)
theorem tw_25 : Jvm.Cond.selects "TokenHouseModel" ({ cls := "TokenHouseModel", name := "send", desc := "(IIIIJ)V" } : Jvm.MethodName) ({ cls := "TokenHouseModel", name := "send", desc := "(IIIIJ)V" } : Jvm.MethodName) ∈ TW := tw_in 25 (by decide +kernel) (by decide +kernel)
theorem tw_26 : Jvm.Cond.selects "TokenHouseModel" ({ cls := "TokenHouseModel", name := "reckon", desc := "(II)V" } : Jvm.MethodName) ({ cls := "TokenHouseModel", name := "reckon", desc := "(II)V" } : Jvm.MethodName) ∈ TW := tw_in 26 (by decide +kernel) (by decide +kernel)
theorem tw_27 : Jvm.Cond.selects "TokenHouseModel" ({ cls := "TokenHouseModel", name := "errorOf", desc := "(I)I" } : Jvm.MethodName) ({ cls := "TokenHouseModel", name := "errorOf", desc := "(I)I" } : Jvm.MethodName) ∈ TW := tw_in 27 (by decide +kernel) (by decide +kernel)
theorem tw_28 : Jvm.Cond.selects "TokenHouseModel" ({ cls := "TokenHouseModel", name := "sendError", desc := "(III)V" } : Jvm.MethodName) ({ cls := "TokenHouseModel", name := "sendError", desc := "(III)V" } : Jvm.MethodName) ∈ TW := tw_in 28 (by decide +kernel) (by decide +kernel)
theorem tw_29 : Jvm.Cond.selects "TokenHouseModel" ({ cls := "TokenHouseModel", name := "part", desc := "(II)V" } : Jvm.MethodName) ({ cls := "TokenHouseModel", name := "part", desc := "(II)V" } : Jvm.MethodName) ∈ TW := tw_in 29 (by decide +kernel) (by decide +kernel)
theorem tw_30 : Jvm.Cond.selects "TokenHouseModel" ({ cls := "TokenHouseModel", name := "turn", desc := "(II)V" } : Jvm.MethodName) ({ cls := "TokenHouseModel", name := "turn", desc := "(II)V" } : Jvm.MethodName) ∈ TW := tw_in 30 (by decide +kernel) (by decide +kernel)
theorem tw_31 : Jvm.Cond.selects "TokenHouseModel" ({ cls := "TokenHouseModel", name := "contextOf", desc := "(III)I" } : Jvm.MethodName) ({ cls := "TokenHouseModel", name := "contextOf", desc := "(III)I" } : Jvm.MethodName) ∈ TW := tw_in 31 (by decide +kernel) (by decide +kernel)
theorem tw_32 : Jvm.Cond.selects "TokenHouseModel" ({ cls := "TokenHouseModel", name := "callOrBack", desc := "(II)V" } : Jvm.MethodName) ({ cls := "TokenHouseModel", name := "callOrBack", desc := "(II)V" } : Jvm.MethodName) ∈ TW := tw_in 32 (by decide +kernel) (by decide +kernel)
theorem tw_33 : Jvm.Cond.selects "TokenHouseModel" ({ cls := "TokenHouseModel", name := "make", desc := "(II)V" } : Jvm.MethodName) ({ cls := "TokenHouseModel", name := "make", desc := "(II)V" } : Jvm.MethodName) ∈ TW := tw_in 33 (by decide +kernel) (by decide +kernel)
theorem tw_34 : Jvm.Cond.selects "TokenHouseModel" ({ cls := "TokenHouseModel", name := "keepResult", desc := "(I)V" } : Jvm.MethodName) ({ cls := "TokenHouseModel", name := "keepResult", desc := "(I)V" } : Jvm.MethodName) ∈ TW := tw_in 34 (by decide +kernel) (by decide +kernel)
theorem tw_35 : Jvm.Cond.selects "TokenHouseModel" ({ cls := "TokenHouseModel", name := "atCell", desc := "(II)V" } : Jvm.MethodName) ({ cls := "TokenHouseModel", name := "atCell", desc := "(II)V" } : Jvm.MethodName) ∈ TW := tw_in 35 (by decide +kernel) (by decide +kernel)
theorem tw_36 : Jvm.Cond.selects "TokenHouseModel" ({ cls := "TokenHouseModel", name := "store", desc := "(III)V" } : Jvm.MethodName) ({ cls := "TokenHouseModel", name := "store", desc := "(III)V" } : Jvm.MethodName) ∈ TW := tw_in 36 (by decide +kernel) (by decide +kernel)
theorem tw_37 : Jvm.Cond.selects "TokenHouseModel" ({ cls := "TokenHouseModel", name := "serve", desc := "(I)V" } : Jvm.MethodName) ({ cls := "TokenHouseModel", name := "serve", desc := "(I)V" } : Jvm.MethodName) ∈ TW := tw_in 37 (by decide +kernel) (by decide +kernel)
theorem tw_38 : Jvm.Cond.initialized "TokenHouseLaw" ∈ TW := tw_in 38 (by decide +kernel) (by decide +kernel)
theorem tw_39 : Jvm.Cond.initialized "TokenHouse" ∈ TW := tw_in 39 (by decide +kernel) (by decide +kernel)
theorem tw_40 : Jvm.Cond.initialized "TokenHouse$Value" ∈ TW := tw_in 40 (by decide +kernel) (by decide +kernel)
theorem tw_41 : Jvm.Cond.initialized "java/util/AbstractCollection" ∈ TW := tw_in 41 (by decide +kernel) (by decide +kernel)
theorem tw_42 : Jvm.Cond.initialized "java/util/AbstractList" ∈ TW := tw_in 42 (by decide +kernel) (by decide +kernel)
theorem tw_43 : Jvm.Cond.initialized "java/util/ArrayList" ∈ TW := tw_in 43 (by decide +kernel) (by decide +kernel)
theorem tw_44 : Jvm.Cond.initialized "TokenHouse$Frames" ∈ TW := tw_in 44 (by decide +kernel) (by decide +kernel)
theorem tw_45 : Jvm.Cond.initialized "TokenHouse$Contexts" ∈ TW := tw_in 45 (by decide +kernel) (by decide +kernel)
theorem tw_46 : Jvm.Cond.initialized "TokenHouse$Cells" ∈ TW := tw_in 46 (by decide +kernel) (by decide +kernel)
theorem tw_47 : Jvm.Cond.initialized "TokenHouseModel" ∈ TW := tw_in 47 (by decide +kernel) (by decide +kernel)
theorem tw_48 : Jvm.Cond.initialized "java/lang/Throwable" ∈ TW := tw_in 48 (by decide +kernel) (by decide +kernel)
theorem tw_49 : Jvm.Cond.initialized "java/lang/Exception" ∈ TW := tw_in 49 (by decide +kernel) (by decide +kernel)
theorem tw_50 : Jvm.Cond.initialized "java/lang/RuntimeException" ∈ TW := tw_in 50 (by decide +kernel) (by decide +kernel)
theorem tw_51 : Jvm.Cond.initialized "java/lang/IllegalArgumentException" ∈ TW := tw_in 51 (by decide +kernel) (by decide +kernel)
theorem tw_52 : Jvm.Cond.initialized "java/lang/IllegalStateException" ∈ TW := tw_in 52 (by decide +kernel) (by decide +kernel)
theorem tw_53 : Jvm.Cond.initialized "TokenHouse$Node" ∈ TW := tw_in 53 (by decide +kernel) (by decide +kernel)
theorem tw_54 : Jvm.Cond.initialized "jdk/internal/util/ArraysSupport" ∈ TW := tw_in 54 (by decide +kernel) (by decide +kernel)
theorem tw_55 : Jvm.Cond.initialized "java/lang/Math" ∈ TW := tw_in 55 (by decide +kernel) (by decide +kernel)
theorem tw_56 : Jvm.Cond.initialized "java/util/Arrays" ∈ TW := tw_in 56 (by decide +kernel) (by decide +kernel)
theorem tw_57 : Jvm.Cond.initialized "java/lang/System" ∈ TW := tw_in 57 (by decide +kernel) (by decide +kernel)
theorem tw_58 : Jvm.Cond.initialized "java/util/Objects" ∈ TW := tw_in 58 (by decide +kernel) (by decide +kernel)
theorem tw_59 : Jvm.Cond.initialized "jdk/internal/util/Preconditions" ∈ TW := tw_in 59 (by decide +kernel) (by decide +kernel)
theorem tw_60 : Jvm.Cond.initialized "TokenHouse$Arc" ∈ TW := tw_in 60 (by decide +kernel) (by decide +kernel)
theorem tw_61 : Jvm.Cond.initialized "TokenHouse$Frame" ∈ TW := tw_in 61 (by decide +kernel) (by decide +kernel)
theorem tw_62 : Jvm.Cond.initialized "TokenHouse$Cell" ∈ TW := tw_in 62 (by decide +kernel) (by decide +kernel)
theorem tw_63 : Jvm.Cond.initialized "TokenHouse$Result" ∈ TW := tw_in 63 (by decide +kernel) (by decide +kernel)
theorem tw_64 : Jvm.Cond.initialized "java/util/NoSuchElementException" ∈ TW := tw_in 64 (by decide +kernel) (by decide +kernel)
theorem tw_65 : Jvm.Cond.classLink "TokenHouseLaw" (8 : Nat) "TokenHouse" ∈ TW := tw_in 65 (by decide +kernel) (by decide +kernel)
theorem tw_66 : Jvm.Cond.instantiable "TokenHouse" (13 : Nat) ∈ TW := tw_in 66 (by decide +kernel) (by decide +kernel)
theorem tw_67 : Jvm.Cond.methodLink "TokenHouseLaw" (34 : Nat) ({ cls := "TokenHouse", name := "<init>", desc := "()V" } : Jvm.MethodName) ∈ TW := tw_in 67 (by decide +kernel) (by decide +kernel)
theorem tw_68 : Jvm.Cond.instanceMethod ({ cls := "TokenHouse", name := "<init>", desc := "()V" } : Jvm.MethodName) ∈ TW := tw_in 68 (by decide +kernel) (by decide +kernel)
set_option maxRecDepth 100000 in
theorem tw_69 : Jvm.Cond.code ({ cls := "TokenHouse", name := "<init>", desc := "()V" } : Jvm.MethodName) prog_1_method_1_code (1 : Nat) (Option.none : Option Jvm.ClassFile.FieldType) ∈ TW := tw_in 69 rfl rfl
theorem tw_70 : Jvm.Cond.methodLink "TokenHouse" (1 : Nat) ({ cls := "java/lang/Object", name := "<init>", desc := "()V" } : Jvm.MethodName) ∈ TW := tw_in 70 (by decide +kernel) (by decide +kernel)
theorem tw_71 : Jvm.Cond.instanceMethod ({ cls := "java/lang/Object", name := "<init>", desc := "()V" } : Jvm.MethodName) ∈ TW := tw_in 71 (by decide +kernel) (by decide +kernel)
set_option maxRecDepth 100000 in
theorem tw_72 : Jvm.Cond.code ({ cls := "java/lang/Object", name := "<init>", desc := "()V" } : Jvm.MethodName) object_method_1_code (1 : Nat) (Option.none : Option Jvm.ClassFile.FieldType) ∈ TW := tw_in 72 rfl rfl
theorem tw_73 : Jvm.Cond.classLink "TokenHouse" (7 : Nat) "TokenHouse$Value" ∈ TW := tw_in 73 (by decide +kernel) (by decide +kernel)
theorem tw_74 : Jvm.Cond.instantiable "TokenHouse$Value" (2 : Nat) ∈ TW := tw_in 74 (by decide +kernel) (by decide +kernel)
theorem tw_75 : Jvm.Cond.methodLink "TokenHouse" (11 : Nat) ({ cls := "TokenHouse$Value", name := "<init>", desc := "(IJ)V" } : Jvm.MethodName) ∈ TW := tw_in 75 (by decide +kernel) (by decide +kernel)
theorem tw_76 : Jvm.Cond.instanceMethod ({ cls := "TokenHouse$Value", name := "<init>", desc := "(IJ)V" } : Jvm.MethodName) ∈ TW := tw_in 76 (by decide +kernel) (by decide +kernel)
set_option maxRecDepth 100000 in
theorem tw_77 : Jvm.Cond.code ({ cls := "TokenHouse$Value", name := "<init>", desc := "(IJ)V" } : Jvm.MethodName) prog_10_method_1_code (4 : Nat) (Option.none : Option Jvm.ClassFile.FieldType) ∈ TW := tw_in 77 rfl rfl
theorem tw_78 : Jvm.Cond.methodLink "TokenHouse$Value" (1 : Nat) ({ cls := "java/lang/Object", name := "<init>", desc := "()V" } : Jvm.MethodName) ∈ TW := tw_in 78 (by decide +kernel) (by decide +kernel)
theorem tw_79 : Jvm.Cond.fieldLink "TokenHouse$Value" (7 : Nat) "TokenHouse$Value" "kind" "I" ∈ TW := tw_in 79 (by decide +kernel) (by decide +kernel)
theorem tw_80 : Jvm.Cond.fieldLink "TokenHouse$Cell" (22 : Nat) "TokenHouse$Value" "kind" "I" ∈ TW := tw_in 80 (by decide +kernel) (by decide +kernel)
theorem tw_81 : Jvm.Cond.fieldLink "TokenHouse$Frame" (29 : Nat) "TokenHouse$Value" "kind" "I" ∈ TW := tw_in 81 (by decide +kernel) (by decide +kernel)
theorem tw_82 : Jvm.Cond.fieldLink "TokenHouse" (181 : Nat) "TokenHouse$Value" "kind" "I" ∈ TW := tw_in 82 (by decide +kernel) (by decide +kernel)
theorem tw_83 : Jvm.Cond.fieldLink "TokenHouse$Value" (13 : Nat) "TokenHouse$Value" "number" "J" ∈ TW := tw_in 83 (by decide +kernel) (by decide +kernel)
theorem tw_84 : Jvm.Cond.fieldLink "TokenHouse" (184 : Nat) "TokenHouse$Value" "number" "J" ∈ TW := tw_in 84 (by decide +kernel) (by decide +kernel)
theorem tw_90 : Jvm.Cond.classLink "TokenHouse" (18 : Nat) "java/util/ArrayList" ∈ TW := tw_in 90 (by decide +kernel) (by decide +kernel)
theorem tw_91 : Jvm.Cond.instantiable "java/util/ArrayList" (3 : Nat) ∈ TW := tw_in 91 (by decide +kernel) (by decide +kernel)
theorem tw_92 : Jvm.Cond.methodLink "TokenHouse" (20 : Nat) ({ cls := "java/util/ArrayList", name := "<init>", desc := "()V" } : Jvm.MethodName) ∈ TW := tw_in 92 (by decide +kernel) (by decide +kernel)
theorem tw_93 : Jvm.Cond.instanceMethod ({ cls := "java/util/ArrayList", name := "<init>", desc := "()V" } : Jvm.MethodName) ∈ TW := tw_in 93 (by decide +kernel) (by decide +kernel)
set_option maxRecDepth 100000 in
theorem tw_94 : Jvm.Cond.code ({ cls := "java/util/ArrayList", name := "<init>", desc := "()V" } : Jvm.MethodName) prog_26_method_2_code (1 : Nat) (Option.none : Option Jvm.ClassFile.FieldType) ∈ TW := tw_in 94 rfl rfl
theorem tw_95 : Jvm.Cond.methodLink "java/util/ArrayList" (1 : Nat) ({ cls := "java/util/AbstractList", name := "<init>", desc := "()V" } : Jvm.MethodName) ∈ TW := tw_in 95 (by decide +kernel) (by decide +kernel)
theorem tw_96 : Jvm.Cond.instanceMethod ({ cls := "java/util/AbstractList", name := "<init>", desc := "()V" } : Jvm.MethodName) ∈ TW := tw_in 96 (by decide +kernel) (by decide +kernel)
set_option maxRecDepth 100000 in
theorem tw_97 : Jvm.Cond.code ({ cls := "java/util/AbstractList", name := "<init>", desc := "()V" } : Jvm.MethodName) prog_25_method_1_code (1 : Nat) (Option.none : Option Jvm.ClassFile.FieldType) ∈ TW := tw_in 97 rfl rfl
theorem tw_98 : Jvm.Cond.methodLink "java/util/AbstractList" (1 : Nat) ({ cls := "java/util/AbstractCollection", name := "<init>", desc := "()V" } : Jvm.MethodName) ∈ TW := tw_in 98 (by decide +kernel) (by decide +kernel)
theorem tw_99 : Jvm.Cond.instanceMethod ({ cls := "java/util/AbstractCollection", name := "<init>", desc := "()V" } : Jvm.MethodName) ∈ TW := tw_in 99 (by decide +kernel) (by decide +kernel)
set_option maxRecDepth 100000 in
theorem tw_100 : Jvm.Cond.code ({ cls := "java/util/AbstractCollection", name := "<init>", desc := "()V" } : Jvm.MethodName) prog_24_method_1_code (1 : Nat) (Option.none : Option Jvm.ClassFile.FieldType) ∈ TW := tw_in 100 rfl rfl
theorem tw_101 : Jvm.Cond.methodLink "java/util/AbstractCollection" (1 : Nat) ({ cls := "java/lang/Object", name := "<init>", desc := "()V" } : Jvm.MethodName) ∈ TW := tw_in 101 (by decide +kernel) (by decide +kernel)
theorem tw_102 : Jvm.Cond.fieldLink "java/util/ArrayList" (39 : Nat) "java/util/ArrayList" "DEFAULTCAPACITY_EMPTY_ELEMENTDATA" "[Ljava/lang/Object;" ∈ TW := tw_in 102 (by decide +kernel) (by decide +kernel)
theorem tw_104 : Jvm.Cond.fieldLink "java/util/ArrayList" (9 : Nat) "java/util/ArrayList" "elementData" "[Ljava/lang/Object;" ∈ TW := tw_in 104 (by decide +kernel) (by decide +kernel)
theorem tw_105 : Jvm.Cond.fieldLink "java/util/ArrayList" (48 : Nat) "java/util/ArrayList" "size" "I" ∈ TW := tw_in 105 (by decide +kernel) (by decide +kernel)
theorem tw_106 : Jvm.Cond.fieldLink "java/util/AbstractList" (7 : Nat) "java/util/AbstractList" "modCount" "I" ∈ TW := tw_in 106 (by decide +kernel) (by decide +kernel)
theorem tw_107 : Jvm.Cond.fieldLink "java/util/ArrayList" (63 : Nat) "java/util/ArrayList" "modCount" "I" ∈ TW := tw_in 107 (by decide +kernel) (by decide +kernel)
theorem tw_116 : Jvm.Cond.classLink "TokenHouse" (25 : Nat) "TokenHouse$Frames" ∈ TW := tw_in 116 (by decide +kernel) (by decide +kernel)
theorem tw_117 : Jvm.Cond.instantiable "TokenHouse$Frames" (3 : Nat) ∈ TW := tw_in 117 (by decide +kernel) (by decide +kernel)
theorem tw_118 : Jvm.Cond.methodLink "TokenHouse" (27 : Nat) ({ cls := "TokenHouse$Frames", name := "<init>", desc := "(LTokenHouse$Value;)V" } : Jvm.MethodName) ∈ TW := tw_in 118 (by decide +kernel) (by decide +kernel)
theorem tw_119 : Jvm.Cond.instanceMethod ({ cls := "TokenHouse$Frames", name := "<init>", desc := "(LTokenHouse$Value;)V" } : Jvm.MethodName) ∈ TW := tw_in 119 (by decide +kernel) (by decide +kernel)
set_option maxRecDepth 100000 in
theorem tw_120 : Jvm.Cond.code ({ cls := "TokenHouse$Frames", name := "<init>", desc := "(LTokenHouse$Value;)V" } : Jvm.MethodName) prog_7_method_1_code (2 : Nat) (Option.none : Option Jvm.ClassFile.FieldType) ∈ TW := tw_in 120 rfl rfl
theorem tw_121 : Jvm.Cond.methodLink "TokenHouse$Frames" (1 : Nat) ({ cls := "java/lang/Object", name := "<init>", desc := "()V" } : Jvm.MethodName) ∈ TW := tw_in 121 (by decide +kernel) (by decide +kernel)
theorem tw_122 : Jvm.Cond.classLink "TokenHouse$Frames" (13 : Nat) "java/util/ArrayList" ∈ TW := tw_in 122 (by decide +kernel) (by decide +kernel)
theorem tw_123 : Jvm.Cond.methodLink "TokenHouse$Frames" (15 : Nat) ({ cls := "java/util/ArrayList", name := "<init>", desc := "()V" } : Jvm.MethodName) ∈ TW := tw_in 123 (by decide +kernel) (by decide +kernel)
theorem tw_124 : Jvm.Cond.fieldLink "TokenHouse$Frames" (7 : Nat) "TokenHouse$Frames" "nothing" "LTokenHouse$Value;" ∈ TW := tw_in 124 (by decide +kernel) (by decide +kernel)
theorem tw_125 : Jvm.Cond.fieldLink "TokenHouse$Frames" (16 : Nat) "TokenHouse$Frames" "made" "Ljava/util/ArrayList;" ∈ TW := tw_in 125 (by decide +kernel) (by decide +kernel)
theorem tw_126 : Jvm.Cond.fieldLink "TokenHouse$Frames" (20 : Nat) "TokenHouse$Frames" "free" "Ljava/util/ArrayList;" ∈ TW := tw_in 126 (by decide +kernel) (by decide +kernel)
theorem tw_134 : Jvm.Cond.classLink "TokenHouse" (37 : Nat) "TokenHouse$Contexts" ∈ TW := tw_in 134 (by decide +kernel) (by decide +kernel)
theorem tw_135 : Jvm.Cond.instantiable "TokenHouse$Contexts" (4 : Nat) ∈ TW := tw_in 135 (by decide +kernel) (by decide +kernel)
theorem tw_136 : Jvm.Cond.methodLink "TokenHouse" (39 : Nat) ({ cls := "TokenHouse$Contexts", name := "<init>", desc := "()V" } : Jvm.MethodName) ∈ TW := tw_in 136 (by decide +kernel) (by decide +kernel)
theorem tw_137 : Jvm.Cond.instanceMethod ({ cls := "TokenHouse$Contexts", name := "<init>", desc := "()V" } : Jvm.MethodName) ∈ TW := tw_in 137 (by decide +kernel) (by decide +kernel)
set_option maxRecDepth 100000 in
theorem tw_138 : Jvm.Cond.code ({ cls := "TokenHouse$Contexts", name := "<init>", desc := "()V" } : Jvm.MethodName) prog_5_method_1_code (1 : Nat) (Option.none : Option Jvm.ClassFile.FieldType) ∈ TW := tw_in 138 rfl rfl
theorem tw_139 : Jvm.Cond.methodLink "TokenHouse$Contexts" (3 : Nat) ({ cls := "java/lang/Object", name := "<init>", desc := "()V" } : Jvm.MethodName) ∈ TW := tw_in 139 (by decide +kernel) (by decide +kernel)
theorem tw_140 : Jvm.Cond.fieldLink "TokenHouse$Contexts" (9 : Nat) "TokenHouse$Contexts" "outside" "[I" ∈ TW := tw_in 140 (by decide +kernel) (by decide +kernel)
theorem tw_141 : Jvm.Cond.fieldLink "TokenHouse" (193 : Nat) "TokenHouse$Contexts" "outside" "[I" ∈ TW := tw_in 141 (by decide +kernel) (by decide +kernel)
theorem tw_142 : Jvm.Cond.fieldLink "TokenHouse$Contexts" (15 : Nat) "TokenHouse$Contexts" "site" "[I" ∈ TW := tw_in 142 (by decide +kernel) (by decide +kernel)
theorem tw_143 : Jvm.Cond.fieldLink "TokenHouse" (196 : Nat) "TokenHouse$Contexts" "site" "[I" ∈ TW := tw_in 143 (by decide +kernel) (by decide +kernel)
theorem tw_144 : Jvm.Cond.fieldLink "TokenHouse$Contexts" (18 : Nat) "TokenHouse$Contexts" "round" "[I" ∈ TW := tw_in 144 (by decide +kernel) (by decide +kernel)
theorem tw_145 : Jvm.Cond.fieldLink "TokenHouse" (199 : Nat) "TokenHouse$Contexts" "round" "[I" ∈ TW := tw_in 145 (by decide +kernel) (by decide +kernel)
theorem tw_146 : Jvm.Cond.fieldLink "TokenHouse$Contexts" (21 : Nat) "TokenHouse$Contexts" "count" "I" ∈ TW := tw_in 146 (by decide +kernel) (by decide +kernel)
theorem tw_147 : Jvm.Cond.fieldLink "TokenHouse" (221 : Nat) "TokenHouse$Contexts" "count" "I" ∈ TW := tw_in 147 (by decide +kernel) (by decide +kernel)
theorem tw_157 : Jvm.Cond.arrayClass Jvm.ClassFile.FieldType.int ∈ TW := tw_in 157 (by decide +kernel) (by decide +kernel)
theorem tw_158 : Jvm.Cond.classLink "TokenHouse" (44 : Nat) "TokenHouse$Cells" ∈ TW := tw_in 158 (by decide +kernel) (by decide +kernel)
theorem tw_159 : Jvm.Cond.instantiable "TokenHouse$Cells" (4 : Nat) ∈ TW := tw_in 159 (by decide +kernel) (by decide +kernel)
theorem tw_160 : Jvm.Cond.methodLink "TokenHouse" (46 : Nat) ({ cls := "TokenHouse$Cells", name := "<init>", desc := "(LTokenHouse$Value;)V" } : Jvm.MethodName) ∈ TW := tw_in 160 (by decide +kernel) (by decide +kernel)
theorem tw_161 : Jvm.Cond.instanceMethod ({ cls := "TokenHouse$Cells", name := "<init>", desc := "(LTokenHouse$Value;)V" } : Jvm.MethodName) ∈ TW := tw_in 161 (by decide +kernel) (by decide +kernel)
set_option maxRecDepth 100000 in
theorem tw_162 : Jvm.Cond.code ({ cls := "TokenHouse$Cells", name := "<init>", desc := "(LTokenHouse$Value;)V" } : Jvm.MethodName) prog_4_method_1_code (2 : Nat) (Option.none : Option Jvm.ClassFile.FieldType) ∈ TW := tw_in 162 rfl rfl
theorem tw_163 : Jvm.Cond.methodLink "TokenHouse$Cells" (3 : Nat) ({ cls := "java/lang/Object", name := "<init>", desc := "()V" } : Jvm.MethodName) ∈ TW := tw_in 163 (by decide +kernel) (by decide +kernel)
theorem tw_164 : Jvm.Cond.classLink "TokenHouse$Cells" (15 : Nat) "TokenHouse$Cell" ∈ TW := tw_in 164 (by decide +kernel) (by decide +kernel)
theorem tw_166 : Jvm.Cond.fieldLink "TokenHouse$Cells" (9 : Nat) "TokenHouse$Cells" "nothing" "LTokenHouse$Value;" ∈ TW := tw_in 166 (by decide +kernel) (by decide +kernel)
theorem tw_167 : Jvm.Cond.fieldLink "TokenHouse$Cells" (17 : Nat) "TokenHouse$Cells" "row" "[LTokenHouse$Cell;" ∈ TW := tw_in 167 (by decide +kernel) (by decide +kernel)
theorem tw_168 : Jvm.Cond.fieldLink "TokenHouse$Cells" (21 : Nat) "TokenHouse$Cells" "lengths" "[I" ∈ TW := tw_in 168 (by decide +kernel) (by decide +kernel)
theorem tw_169 : Jvm.Cond.fieldLink "TokenHouse$Cells" (25 : Nat) "TokenHouse$Cells" "arrays" "I" ∈ TW := tw_in 169 (by decide +kernel) (by decide +kernel)
theorem tw_170 : Jvm.Cond.fieldLink "TokenHouse" (224 : Nat) "TokenHouse$Cells" "arrays" "I" ∈ TW := tw_in 170 (by decide +kernel) (by decide +kernel)
theorem tw_180 : Jvm.Cond.fieldLink "TokenHouse" (14 : Nat) "TokenHouse" "nothing" "LTokenHouse$Value;" ∈ TW := tw_in 180 (by decide +kernel) (by decide +kernel)
theorem tw_181 : Jvm.Cond.fieldLink "TokenHouse" (21 : Nat) "TokenHouse" "nodes" "Ljava/util/ArrayList;" ∈ TW := tw_in 181 (by decide +kernel) (by decide +kernel)
theorem tw_182 : Jvm.Cond.fieldLink "TokenHouse" (30 : Nat) "TokenHouse" "frames" "LTokenHouse$Frames;" ∈ TW := tw_in 182 (by decide +kernel) (by decide +kernel)
theorem tw_183 : Jvm.Cond.fieldLink "TokenHouse" (34 : Nat) "TokenHouse" "readyFrames" "Ljava/util/ArrayList;" ∈ TW := tw_in 183 (by decide +kernel) (by decide +kernel)
theorem tw_184 : Jvm.Cond.fieldLink "TokenHouse" (40 : Nat) "TokenHouse" "contexts" "LTokenHouse$Contexts;" ∈ TW := tw_in 184 (by decide +kernel) (by decide +kernel)
theorem tw_185 : Jvm.Cond.fieldLink "TokenHouse" (47 : Nat) "TokenHouse" "cells" "LTokenHouse$Cells;" ∈ TW := tw_in 185 (by decide +kernel) (by decide +kernel)
theorem tw_186 : Jvm.Cond.fieldLink "TokenHouse" (51 : Nat) "TokenHouse" "results" "Ljava/util/ArrayList;" ∈ TW := tw_in 186 (by decide +kernel) (by decide +kernel)
theorem tw_187 : Jvm.Cond.fieldLink "TokenHouse" (155 : Nat) "TokenHouse" "waitingTokens" "I" ∈ TW := tw_in 187 (by decide +kernel) (by decide +kernel)
theorem tw_188 : Jvm.Cond.fieldLink "TokenHouse" (158 : Nat) "TokenHouse" "keptFetches" "I" ∈ TW := tw_in 188 (by decide +kernel) (by decide +kernel)
theorem tw_189 : Jvm.Cond.fieldLink "TokenHouse" (108 : Nat) "TokenHouse" "trap" "I" ∈ TW := tw_in 189 (by decide +kernel) (by decide +kernel)
theorem tw_190 : Jvm.Cond.fieldLink "TokenHouse" (127 : Nat) "TokenHouse" "wentSinceClear" "I" ∈ TW := tw_in 190 (by decide +kernel) (by decide +kernel)
theorem tw_191 : Jvm.Cond.fieldLink "TokenHouse" (118 : Nat) "TokenHouse" "wentInAll" "I" ∈ TW := tw_in 191 (by decide +kernel) (by decide +kernel)
theorem tw_192 : Jvm.Cond.fieldLink "TokenHouse" (69 : Nat) "TokenHouse" "begun" "Z" ∈ TW := tw_in 192 (by decide +kernel) (by decide +kernel)
theorem tw_220 : Jvm.Cond.methodLink "TokenHouseLaw" (48 : Nat) ({ cls := "TokenHouse", name := "arc", desc := "(IIII)Z" } : Jvm.MethodName) ∈ TW := tw_in 220 (by decide +kernel) (by decide +kernel)
theorem tw_221 : Jvm.Cond.instanceMethod ({ cls := "TokenHouse", name := "arc", desc := "(IIII)Z" } : Jvm.MethodName) ∈ TW := tw_in 221 (by decide +kernel) (by decide +kernel)
theorem tw_222 : Jvm.Cond.selects "TokenHouse" ({ cls := "TokenHouse", name := "arc", desc := "(IIII)Z" } : Jvm.MethodName) ({ cls := "TokenHouse", name := "arc", desc := "(IIII)Z" } : Jvm.MethodName) ∈ TW := tw_in 222 (by decide +kernel) (by decide +kernel)
set_option maxRecDepth 100000 in
theorem tw_223 : Jvm.Cond.code ({ cls := "TokenHouse", name := "arc", desc := "(IIII)Z" } : Jvm.MethodName) prog_1_method_3_code (7 : Nat) (Option.some Jvm.ClassFile.FieldType.boolean) ∈ TW := tw_in 223 rfl rfl
theorem tw_224 : Jvm.Cond.methodLink "TokenHouse" (93 : Nat) ({ cls := "TokenHouse", name := "nodeAt", desc := "(I)LTokenHouse$Node;" } : Jvm.MethodName) ∈ TW := tw_in 224 (by decide +kernel) (by decide +kernel)
theorem tw_226 : Jvm.Cond.instanceMethod ({ cls := "TokenHouse", name := "nodeAt", desc := "(I)LTokenHouse$Node;" } : Jvm.MethodName) ∈ TW := tw_in 226 (by decide +kernel) (by decide +kernel)
set_option maxRecDepth 100000 in
theorem tw_227 : Jvm.Cond.code ({ cls := "TokenHouse", name := "nodeAt", desc := "(I)LTokenHouse$Node;" } : Jvm.MethodName) prog_1_method_13_code (2 : Nat) (Option.some (Jvm.ClassFile.FieldType.object "TokenHouse$Node")) ∈ TW := tw_in 227 rfl rfl
theorem tw_228 : Jvm.Cond.methodLink "TokenHouse" (65 : Nat) ({ cls := "java/util/ArrayList", name := "size", desc := "()I" } : Jvm.MethodName) ∈ TW := tw_in 228 (by decide +kernel) (by decide +kernel)
theorem tw_229 : Jvm.Cond.instanceMethod ({ cls := "java/util/ArrayList", name := "size", desc := "()I" } : Jvm.MethodName) ∈ TW := tw_in 229 (by decide +kernel) (by decide +kernel)
theorem tw_230 : Jvm.Cond.selects "java/util/ArrayList" ({ cls := "java/util/ArrayList", name := "size", desc := "()I" } : Jvm.MethodName) ({ cls := "java/util/ArrayList", name := "size", desc := "()I" } : Jvm.MethodName) ∈ TW := tw_in 230 (by decide +kernel) (by decide +kernel)
set_option maxRecDepth 100000 in
theorem tw_231 : Jvm.Cond.code ({ cls := "java/util/ArrayList", name := "size", desc := "()I" } : Jvm.MethodName) prog_26_method_8_code (1 : Nat) (Option.some Jvm.ClassFile.FieldType.int) ∈ TW := tw_in 231 rfl rfl
theorem tw_232 : Jvm.Cond.methodLink "TokenHouse" (143 : Nat) ({ cls := "java/util/ArrayList", name := "get", desc := "(I)Ljava/lang/Object;" } : Jvm.MethodName) ∈ TW := tw_in 232 (by decide +kernel) (by decide +kernel)
theorem tw_233 : Jvm.Cond.instanceMethod ({ cls := "java/util/ArrayList", name := "get", desc := "(I)Ljava/lang/Object;" } : Jvm.MethodName) ∈ TW := tw_in 233 (by decide +kernel) (by decide +kernel)
theorem tw_234 : Jvm.Cond.selects "java/util/ArrayList" ({ cls := "java/util/ArrayList", name := "get", desc := "(I)Ljava/lang/Object;" } : Jvm.MethodName) ({ cls := "java/util/ArrayList", name := "get", desc := "(I)Ljava/lang/Object;" } : Jvm.MethodName) ∈ TW := tw_in 234 (by decide +kernel) (by decide +kernel)
set_option maxRecDepth 100000 in
theorem tw_235 : Jvm.Cond.code ({ cls := "java/util/ArrayList", name := "get", desc := "(I)Ljava/lang/Object;" } : Jvm.MethodName) prog_26_method_20_code (2 : Nat) (Option.some (Jvm.ClassFile.FieldType.object "java/lang/Object")) ∈ TW := tw_in 235 rfl rfl
theorem tw_236 : Jvm.Cond.methodLink "java/util/ArrayList" (118 : Nat) ({ cls := "java/util/Objects", name := "checkIndex", desc := "(II)I" } : Jvm.MethodName) ∈ TW := tw_in 236 (by decide +kernel) (by decide +kernel)
theorem tw_237 : Jvm.Cond.static ({ cls := "java/util/Objects", name := "checkIndex", desc := "(II)I" } : Jvm.MethodName) ∈ TW := tw_in 237 (by decide +kernel) (by decide +kernel)
set_option maxRecDepth 100000 in
theorem tw_238 : Jvm.Cond.code ({ cls := "java/util/Objects", name := "checkIndex", desc := "(II)I" } : Jvm.MethodName) prog_31_method_17_code (2 : Nat) (Option.some Jvm.ClassFile.FieldType.int) ∈ TW := tw_in 238 rfl rfl
theorem tw_239 : Jvm.Cond.methodLink "java/util/Objects" (105 : Nat) ({ cls := "jdk/internal/util/Preconditions", name := "checkIndex", desc := "(IILjava/util/function/BiFunction;)I" } : Jvm.MethodName) ∈ TW := tw_in 239 (by decide +kernel) (by decide +kernel)
theorem tw_240 : Jvm.Cond.static ({ cls := "jdk/internal/util/Preconditions", name := "checkIndex", desc := "(IILjava/util/function/BiFunction;)I" } : Jvm.MethodName) ∈ TW := tw_in 240 (by decide +kernel) (by decide +kernel)
set_option maxRecDepth 100000 in
theorem tw_241 : Jvm.Cond.code ({ cls := "jdk/internal/util/Preconditions", name := "checkIndex", desc := "(IILjava/util/function/BiFunction;)I" } : Jvm.MethodName) prog_35_method_11_code (3 : Nat) (Option.some Jvm.ClassFile.FieldType.int) ∈ TW := tw_in 241 rfl rfl
theorem tw_242 : Jvm.Cond.methodLink "java/util/ArrayList" (123 : Nat) ({ cls := "java/util/ArrayList", name := "elementData", desc := "(I)Ljava/lang/Object;" } : Jvm.MethodName) ∈ TW := tw_in 242 (by decide +kernel) (by decide +kernel)
theorem tw_243 : Jvm.Cond.instanceMethod ({ cls := "java/util/ArrayList", name := "elementData", desc := "(I)Ljava/lang/Object;" } : Jvm.MethodName) ∈ TW := tw_in 243 (by decide +kernel) (by decide +kernel)
theorem tw_244 : Jvm.Cond.selects "java/util/ArrayList" ({ cls := "java/util/ArrayList", name := "elementData", desc := "(I)Ljava/lang/Object;" } : Jvm.MethodName) ({ cls := "java/util/ArrayList", name := "elementData", desc := "(I)Ljava/lang/Object;" } : Jvm.MethodName) ∈ TW := tw_in 244 (by decide +kernel) (by decide +kernel)
set_option maxRecDepth 100000 in
theorem tw_245 : Jvm.Cond.code ({ cls := "java/util/ArrayList", name := "elementData", desc := "(I)Ljava/lang/Object;" } : Jvm.MethodName) prog_26_method_18_code (2 : Nat) (Option.some (Jvm.ClassFile.FieldType.object "java/lang/Object")) ∈ TW := tw_in 245 rfl rfl
theorem tw_246 : Jvm.Cond.classLink "TokenHouse" (78 : Nat) "TokenHouse$Node" ∈ TW := tw_in 246 (by decide +kernel) (by decide +kernel)
theorem tw_247 : Jvm.Cond.methodLink "TokenHouse" (97 : Nat) ({ cls := "TokenHouse$Node", name := "hasSide", desc := "(I)Z" } : Jvm.MethodName) ∈ TW := tw_in 247 (by decide +kernel) (by decide +kernel)
theorem tw_248 : Jvm.Cond.instanceMethod ({ cls := "TokenHouse$Node", name := "hasSide", desc := "(I)Z" } : Jvm.MethodName) ∈ TW := tw_in 248 (by decide +kernel) (by decide +kernel)
theorem tw_249 : Jvm.Cond.selects "TokenHouse$Node" ({ cls := "TokenHouse$Node", name := "hasSide", desc := "(I)Z" } : Jvm.MethodName) ({ cls := "TokenHouse$Node", name := "hasSide", desc := "(I)Z" } : Jvm.MethodName) ∈ TW := tw_in 249 (by decide +kernel) (by decide +kernel)
set_option maxRecDepth 100000 in
theorem tw_250 : Jvm.Cond.code ({ cls := "TokenHouse$Node", name := "hasSide", desc := "(I)Z" } : Jvm.MethodName) prog_8_method_2_code (2 : Nat) (Option.some Jvm.ClassFile.FieldType.boolean) ∈ TW := tw_in 250 rfl rfl
theorem tw_251 : Jvm.Cond.methodLink "TokenHouse" (101 : Nat) ({ cls := "TokenHouse$Node", name := "hasPort", desc := "(I)Z" } : Jvm.MethodName) ∈ TW := tw_in 251 (by decide +kernel) (by decide +kernel)
theorem tw_252 : Jvm.Cond.instanceMethod ({ cls := "TokenHouse$Node", name := "hasPort", desc := "(I)Z" } : Jvm.MethodName) ∈ TW := tw_in 252 (by decide +kernel) (by decide +kernel)
theorem tw_253 : Jvm.Cond.selects "TokenHouse$Node" ({ cls := "TokenHouse$Node", name := "hasPort", desc := "(I)Z" } : Jvm.MethodName) ({ cls := "TokenHouse$Node", name := "hasPort", desc := "(I)Z" } : Jvm.MethodName) ∈ TW := tw_in 253 (by decide +kernel) (by decide +kernel)
set_option maxRecDepth 100000 in
theorem tw_254 : Jvm.Cond.code ({ cls := "TokenHouse$Node", name := "hasPort", desc := "(I)Z" } : Jvm.MethodName) prog_8_method_3_code (2 : Nat) (Option.some Jvm.ClassFile.FieldType.boolean) ∈ TW := tw_in 254 rfl rfl
theorem tw_255 : Jvm.Cond.methodLink "TokenHouse" (104 : Nat) ({ cls := "TokenHouse$Node", name := "addArc", desc := "(ILTokenHouse$Node;I)Z" } : Jvm.MethodName) ∈ TW := tw_in 255 (by decide +kernel) (by decide +kernel)
theorem tw_256 : Jvm.Cond.instanceMethod ({ cls := "TokenHouse$Node", name := "addArc", desc := "(ILTokenHouse$Node;I)Z" } : Jvm.MethodName) ∈ TW := tw_in 256 (by decide +kernel) (by decide +kernel)
theorem tw_257 : Jvm.Cond.selects "TokenHouse$Node" ({ cls := "TokenHouse$Node", name := "addArc", desc := "(ILTokenHouse$Node;I)Z" } : Jvm.MethodName) ({ cls := "TokenHouse$Node", name := "addArc", desc := "(ILTokenHouse$Node;I)Z" } : Jvm.MethodName) ∈ TW := tw_in 257 (by decide +kernel) (by decide +kernel)
set_option maxRecDepth 100000 in
theorem tw_258 : Jvm.Cond.code ({ cls := "TokenHouse$Node", name := "addArc", desc := "(ILTokenHouse$Node;I)Z" } : Jvm.MethodName) prog_8_method_4_code (4 : Nat) (Option.some Jvm.ClassFile.FieldType.boolean) ∈ TW := tw_in 258 rfl rfl
theorem tw_259 : Jvm.Cond.methodLink "TokenHouse$Node" (40 : Nat) ({ cls := "java/util/ArrayList", name := "size", desc := "()I" } : Jvm.MethodName) ∈ TW := tw_in 259 (by decide +kernel) (by decide +kernel)
theorem tw_260 : Jvm.Cond.classLink "TokenHouse$Node" (44 : Nat) "TokenHouse$Arc" ∈ TW := tw_in 260 (by decide +kernel) (by decide +kernel)
theorem tw_261 : Jvm.Cond.instantiable "TokenHouse$Arc" (3 : Nat) ∈ TW := tw_in 261 (by decide +kernel) (by decide +kernel)
theorem tw_262 : Jvm.Cond.methodLink "TokenHouse$Node" (46 : Nat) ({ cls := "TokenHouse$Arc", name := "<init>", desc := "(ILTokenHouse$Node;I)V" } : Jvm.MethodName) ∈ TW := tw_in 262 (by decide +kernel) (by decide +kernel)
theorem tw_263 : Jvm.Cond.instanceMethod ({ cls := "TokenHouse$Arc", name := "<init>", desc := "(ILTokenHouse$Node;I)V" } : Jvm.MethodName) ∈ TW := tw_in 263 (by decide +kernel) (by decide +kernel)
set_option maxRecDepth 100000 in
theorem tw_264 : Jvm.Cond.code ({ cls := "TokenHouse$Arc", name := "<init>", desc := "(ILTokenHouse$Node;I)V" } : Jvm.MethodName) prog_2_method_1_code (4 : Nat) (Option.none : Option Jvm.ClassFile.FieldType) ∈ TW := tw_in 264 rfl rfl
theorem tw_265 : Jvm.Cond.methodLink "TokenHouse$Arc" (1 : Nat) ({ cls := "java/lang/Object", name := "<init>", desc := "()V" } : Jvm.MethodName) ∈ TW := tw_in 265 (by decide +kernel) (by decide +kernel)
theorem tw_266 : Jvm.Cond.fieldLink "TokenHouse$Arc" (7 : Nat) "TokenHouse$Arc" "side" "I" ∈ TW := tw_in 266 (by decide +kernel) (by decide +kernel)
theorem tw_267 : Jvm.Cond.fieldLink "TokenHouse" (256 : Nat) "TokenHouse$Arc" "side" "I" ∈ TW := tw_in 267 (by decide +kernel) (by decide +kernel)
theorem tw_268 : Jvm.Cond.fieldLink "TokenHouse$Arc" (13 : Nat) "TokenHouse$Arc" "to" "LTokenHouse$Node;" ∈ TW := tw_in 268 (by decide +kernel) (by decide +kernel)
theorem tw_269 : Jvm.Cond.fieldLink "TokenHouse" (250 : Nat) "TokenHouse$Arc" "to" "LTokenHouse$Node;" ∈ TW := tw_in 269 (by decide +kernel) (by decide +kernel)
theorem tw_270 : Jvm.Cond.fieldLink "TokenHouse$Arc" (17 : Nat) "TokenHouse$Arc" "port" "I" ∈ TW := tw_in 270 (by decide +kernel) (by decide +kernel)
theorem tw_271 : Jvm.Cond.fieldLink "TokenHouse" (253 : Nat) "TokenHouse$Arc" "port" "I" ∈ TW := tw_in 271 (by decide +kernel) (by decide +kernel)
theorem tw_279 : Jvm.Cond.methodLink "TokenHouse$Node" (49 : Nat) ({ cls := "java/util/ArrayList", name := "add", desc := "(Ljava/lang/Object;)Z" } : Jvm.MethodName) ∈ TW := tw_in 279 (by decide +kernel) (by decide +kernel)
theorem tw_280 : Jvm.Cond.instanceMethod ({ cls := "java/util/ArrayList", name := "add", desc := "(Ljava/lang/Object;)Z" } : Jvm.MethodName) ∈ TW := tw_in 280 (by decide +kernel) (by decide +kernel)
theorem tw_281 : Jvm.Cond.selects "java/util/ArrayList" ({ cls := "java/util/ArrayList", name := "add", desc := "(Ljava/lang/Object;)Z" } : Jvm.MethodName) ({ cls := "java/util/ArrayList", name := "add", desc := "(Ljava/lang/Object;)Z" } : Jvm.MethodName) ∈ TW := tw_in 281 (by decide +kernel) (by decide +kernel)
set_option maxRecDepth 100000 in
theorem tw_282 : Jvm.Cond.code ({ cls := "java/util/ArrayList", name := "add", desc := "(Ljava/lang/Object;)Z" } : Jvm.MethodName) prog_26_method_25_code (2 : Nat) (Option.some Jvm.ClassFile.FieldType.boolean) ∈ TW := tw_in 282 rfl rfl
theorem tw_283 : Jvm.Cond.methodLink "java/util/ArrayList" (131 : Nat) ({ cls := "java/util/ArrayList", name := "add", desc := "(Ljava/lang/Object;[Ljava/lang/Object;I)V" } : Jvm.MethodName) ∈ TW := tw_in 283 (by decide +kernel) (by decide +kernel)
theorem tw_285 : Jvm.Cond.instanceMethod ({ cls := "java/util/ArrayList", name := "add", desc := "(Ljava/lang/Object;[Ljava/lang/Object;I)V" } : Jvm.MethodName) ∈ TW := tw_in 285 (by decide +kernel) (by decide +kernel)
set_option maxRecDepth 100000 in
theorem tw_286 : Jvm.Cond.code ({ cls := "java/util/ArrayList", name := "add", desc := "(Ljava/lang/Object;[Ljava/lang/Object;I)V" } : Jvm.MethodName) prog_26_method_24_code (4 : Nat) (Option.none : Option Jvm.ClassFile.FieldType) ∈ TW := tw_in 286 rfl rfl
theorem tw_287 : Jvm.Cond.methodLink "java/util/ArrayList" (129 : Nat) ({ cls := "java/util/ArrayList", name := "grow", desc := "()[Ljava/lang/Object;" } : Jvm.MethodName) ∈ TW := tw_in 287 (by decide +kernel) (by decide +kernel)
theorem tw_289 : Jvm.Cond.instanceMethod ({ cls := "java/util/ArrayList", name := "grow", desc := "()[Ljava/lang/Object;" } : Jvm.MethodName) ∈ TW := tw_in 289 (by decide +kernel) (by decide +kernel)
set_option maxRecDepth 100000 in
theorem tw_290 : Jvm.Cond.code ({ cls := "java/util/ArrayList", name := "grow", desc := "()[Ljava/lang/Object;" } : Jvm.MethodName) prog_26_method_7_code (1 : Nat) (Option.some (Jvm.ClassFile.FieldType.array (Jvm.ClassFile.FieldType.object "java/lang/Object"))) ∈ TW := tw_in 290 rfl rfl
theorem tw_291 : Jvm.Cond.methodLink "java/util/ArrayList" (69 : Nat) ({ cls := "java/util/ArrayList", name := "grow", desc := "(I)[Ljava/lang/Object;" } : Jvm.MethodName) ∈ TW := tw_in 291 (by decide +kernel) (by decide +kernel)
theorem tw_293 : Jvm.Cond.instanceMethod ({ cls := "java/util/ArrayList", name := "grow", desc := "(I)[Ljava/lang/Object;" } : Jvm.MethodName) ∈ TW := tw_in 293 (by decide +kernel) (by decide +kernel)
set_option maxRecDepth 100000 in
theorem tw_294 : Jvm.Cond.code ({ cls := "java/util/ArrayList", name := "grow", desc := "(I)[Ljava/lang/Object;" } : Jvm.MethodName) prog_26_method_6_code (4 : Nat) (Option.some (Jvm.ClassFile.FieldType.array (Jvm.ClassFile.FieldType.object "java/lang/Object"))) ∈ TW := tw_in 294 rfl rfl
theorem tw_295 : Jvm.Cond.methodLink "java/util/ArrayList" (73 : Nat) ({ cls := "jdk/internal/util/ArraysSupport", name := "newLength", desc := "(III)I" } : Jvm.MethodName) ∈ TW := tw_in 295 (by decide +kernel) (by decide +kernel)
theorem tw_296 : Jvm.Cond.static ({ cls := "jdk/internal/util/ArraysSupport", name := "newLength", desc := "(III)I" } : Jvm.MethodName) ∈ TW := tw_in 296 (by decide +kernel) (by decide +kernel)
set_option maxRecDepth 100000 in
theorem tw_297 : Jvm.Cond.code ({ cls := "jdk/internal/util/ArraysSupport", name := "newLength", desc := "(III)I" } : Jvm.MethodName) prog_34_method_27_code (4 : Nat) (Option.some Jvm.ClassFile.FieldType.int) ∈ TW := tw_in 297 rfl rfl
theorem tw_298 : Jvm.Cond.methodLink "jdk/internal/util/ArraysSupport" (194 : Nat) ({ cls := "java/lang/Math", name := "max", desc := "(II)I" } : Jvm.MethodName) ∈ TW := tw_in 298 (by decide +kernel) (by decide +kernel)
theorem tw_299 : Jvm.Cond.static ({ cls := "java/lang/Math", name := "max", desc := "(II)I" } : Jvm.MethodName) ∈ TW := tw_in 299 (by decide +kernel) (by decide +kernel)
set_option maxRecDepth 100000 in
theorem tw_300 : Jvm.Cond.code ({ cls := "java/lang/Math", name := "max", desc := "(II)I" } : Jvm.MethodName) prog_19_method_65_code (2 : Nat) (Option.some Jvm.ClassFile.FieldType.int) ∈ TW := tw_in 300 rfl rfl
theorem tw_301 : Jvm.Cond.constant "jdk/internal/util/ArraysSupport" (200 : Nat) (2147483639 : Int32) ∈ TW := tw_in 301 (by decide +kernel) (by decide +kernel)
theorem tw_302 : Jvm.Cond.methodLink "jdk/internal/util/ArraysSupport" (201 : Nat) ({ cls := "jdk/internal/util/ArraysSupport", name := "hugeLength", desc := "(II)I" } : Jvm.MethodName) ∈ TW := tw_in 302 (by decide +kernel) (by decide +kernel)
theorem tw_303 : Jvm.Cond.static ({ cls := "jdk/internal/util/ArraysSupport", name := "hugeLength", desc := "(II)I" } : Jvm.MethodName) ∈ TW := tw_in 303 (by decide +kernel) (by decide +kernel)
set_option maxRecDepth 100000 in
theorem tw_304 : Jvm.Cond.code ({ cls := "jdk/internal/util/ArraysSupport", name := "hugeLength", desc := "(II)I" } : Jvm.MethodName) prog_34_method_28_code (3 : Nat) (Option.some Jvm.ClassFile.FieldType.int) ∈ TW := tw_in 304 rfl rfl
theorem tw_305 : Jvm.Cond.methodLink "java/util/ArrayList" (66 : Nat) ({ cls := "java/util/Arrays", name := "copyOf", desc := "([Ljava/lang/Object;I)[Ljava/lang/Object;" } : Jvm.MethodName) ∈ TW := tw_in 305 (by decide +kernel) (by decide +kernel)
theorem tw_306 : Jvm.Cond.static ({ cls := "java/util/Arrays", name := "copyOf", desc := "([Ljava/lang/Object;I)[Ljava/lang/Object;" } : Jvm.MethodName) ∈ TW := tw_in 306 (by decide +kernel) (by decide +kernel)
set_option maxRecDepth 100000 in
theorem tw_307 : Jvm.Cond.code ({ cls := "java/util/Arrays", name := "copyOf", desc := "([Ljava/lang/Object;I)[Ljava/lang/Object;" } : Jvm.MethodName) prog_27_method_119_code (2 : Nat) (Option.some (Jvm.ClassFile.FieldType.array (Jvm.ClassFile.FieldType.object "java/lang/Object"))) ∈ TW := tw_in 307 rfl rfl
theorem tw_308 : Jvm.Cond.methodLink "java/util/Arrays" (86 : Nat) ({ cls := "java/lang/Object", name := "getClass", desc := "()Ljava/lang/Class;" } : Jvm.MethodName) ∈ TW := tw_in 308 (by decide +kernel) (by decide +kernel)
theorem tw_309 : Jvm.Cond.instanceMethod ({ cls := "java/lang/Object", name := "getClass", desc := "()Ljava/lang/Class;" } : Jvm.MethodName) ∈ TW := tw_in 309 (by decide +kernel) (by decide +kernel)
theorem tw_311 : Jvm.Cond.selects "TokenHouse" ({ cls := "java/lang/Object", name := "getClass", desc := "()Ljava/lang/Class;" } : Jvm.MethodName) ({ cls := "java/lang/Object", name := "getClass", desc := "()Ljava/lang/Class;" } : Jvm.MethodName) ∈ TW := tw_in 311 (by decide +kernel) (by decide +kernel)
theorem tw_312 : Jvm.Cond.selects "TokenHouse$Arc" ({ cls := "java/lang/Object", name := "getClass", desc := "()Ljava/lang/Class;" } : Jvm.MethodName) ({ cls := "java/lang/Object", name := "getClass", desc := "()Ljava/lang/Class;" } : Jvm.MethodName) ∈ TW := tw_in 312 (by decide +kernel) (by decide +kernel)
theorem tw_313 : Jvm.Cond.selects "TokenHouse$Cell" ({ cls := "java/lang/Object", name := "getClass", desc := "()Ljava/lang/Class;" } : Jvm.MethodName) ({ cls := "java/lang/Object", name := "getClass", desc := "()Ljava/lang/Class;" } : Jvm.MethodName) ∈ TW := tw_in 313 (by decide +kernel) (by decide +kernel)
theorem tw_314 : Jvm.Cond.selects "TokenHouse$Cells" ({ cls := "java/lang/Object", name := "getClass", desc := "()Ljava/lang/Class;" } : Jvm.MethodName) ({ cls := "java/lang/Object", name := "getClass", desc := "()Ljava/lang/Class;" } : Jvm.MethodName) ∈ TW := tw_in 314 (by decide +kernel) (by decide +kernel)
theorem tw_315 : Jvm.Cond.selects "TokenHouse$Contexts" ({ cls := "java/lang/Object", name := "getClass", desc := "()Ljava/lang/Class;" } : Jvm.MethodName) ({ cls := "java/lang/Object", name := "getClass", desc := "()Ljava/lang/Class;" } : Jvm.MethodName) ∈ TW := tw_in 315 (by decide +kernel) (by decide +kernel)
theorem tw_316 : Jvm.Cond.selects "TokenHouse$Frame" ({ cls := "java/lang/Object", name := "getClass", desc := "()Ljava/lang/Class;" } : Jvm.MethodName) ({ cls := "java/lang/Object", name := "getClass", desc := "()Ljava/lang/Class;" } : Jvm.MethodName) ∈ TW := tw_in 316 (by decide +kernel) (by decide +kernel)
theorem tw_317 : Jvm.Cond.selects "TokenHouse$Frames" ({ cls := "java/lang/Object", name := "getClass", desc := "()Ljava/lang/Class;" } : Jvm.MethodName) ({ cls := "java/lang/Object", name := "getClass", desc := "()Ljava/lang/Class;" } : Jvm.MethodName) ∈ TW := tw_in 317 (by decide +kernel) (by decide +kernel)
theorem tw_318 : Jvm.Cond.selects "TokenHouse$Node" ({ cls := "java/lang/Object", name := "getClass", desc := "()Ljava/lang/Class;" } : Jvm.MethodName) ({ cls := "java/lang/Object", name := "getClass", desc := "()Ljava/lang/Class;" } : Jvm.MethodName) ∈ TW := tw_in 318 (by decide +kernel) (by decide +kernel)
theorem tw_319 : Jvm.Cond.selects "TokenHouse$Result" ({ cls := "java/lang/Object", name := "getClass", desc := "()Ljava/lang/Class;" } : Jvm.MethodName) ({ cls := "java/lang/Object", name := "getClass", desc := "()Ljava/lang/Class;" } : Jvm.MethodName) ∈ TW := tw_in 319 (by decide +kernel) (by decide +kernel)
theorem tw_320 : Jvm.Cond.selects "TokenHouse$Value" ({ cls := "java/lang/Object", name := "getClass", desc := "()Ljava/lang/Class;" } : Jvm.MethodName) ({ cls := "java/lang/Object", name := "getClass", desc := "()Ljava/lang/Class;" } : Jvm.MethodName) ∈ TW := tw_in 320 (by decide +kernel) (by decide +kernel)
theorem tw_321 : Jvm.Cond.selects "TokenHouseModel" ({ cls := "java/lang/Object", name := "getClass", desc := "()Ljava/lang/Class;" } : Jvm.MethodName) ({ cls := "java/lang/Object", name := "getClass", desc := "()Ljava/lang/Class;" } : Jvm.MethodName) ∈ TW := tw_in 321 (by decide +kernel) (by decide +kernel)
theorem tw_322 : Jvm.Cond.selects "java/lang/IllegalArgumentException" ({ cls := "java/lang/Object", name := "getClass", desc := "()Ljava/lang/Class;" } : Jvm.MethodName) ({ cls := "java/lang/Object", name := "getClass", desc := "()Ljava/lang/Class;" } : Jvm.MethodName) ∈ TW := tw_in 322 (by decide +kernel) (by decide +kernel)
theorem tw_323 : Jvm.Cond.selects "java/lang/IllegalStateException" ({ cls := "java/lang/Object", name := "getClass", desc := "()Ljava/lang/Class;" } : Jvm.MethodName) ({ cls := "java/lang/Object", name := "getClass", desc := "()Ljava/lang/Class;" } : Jvm.MethodName) ∈ TW := tw_in 323 (by decide +kernel) (by decide +kernel)
theorem tw_324 : Jvm.Cond.selects "java/util/ArrayList" ({ cls := "java/lang/Object", name := "getClass", desc := "()Ljava/lang/Class;" } : Jvm.MethodName) ({ cls := "java/lang/Object", name := "getClass", desc := "()Ljava/lang/Class;" } : Jvm.MethodName) ∈ TW := tw_in 324 (by decide +kernel) (by decide +kernel)
theorem tw_325 : Jvm.Cond.selects "java/util/NoSuchElementException" ({ cls := "java/lang/Object", name := "getClass", desc := "()Ljava/lang/Class;" } : Jvm.MethodName) ({ cls := "java/lang/Object", name := "getClass", desc := "()Ljava/lang/Class;" } : Jvm.MethodName) ∈ TW := tw_in 325 (by decide +kernel) (by decide +kernel)
theorem tw_327 : Jvm.Cond.methodLink "java/util/Arrays" (300 : Nat) ({ cls := "java/util/Arrays", name := "copyOf", desc := "([Ljava/lang/Object;ILjava/lang/Class;)[Ljava/lang/Object;" } : Jvm.MethodName) ∈ TW := tw_in 327 (by decide +kernel) (by decide +kernel)
theorem tw_328 : Jvm.Cond.static ({ cls := "java/util/Arrays", name := "copyOf", desc := "([Ljava/lang/Object;ILjava/lang/Class;)[Ljava/lang/Object;" } : Jvm.MethodName) ∈ TW := tw_in 328 (by decide +kernel) (by decide +kernel)
set_option maxRecDepth 100000 in
theorem tw_329 : Jvm.Cond.code ({ cls := "java/util/Arrays", name := "copyOf", desc := "([Ljava/lang/Object;ILjava/lang/Class;)[Ljava/lang/Object;" } : Jvm.MethodName) prog_27_method_120_code (4 : Nat) (Option.some (Jvm.ClassFile.FieldType.array (Jvm.ClassFile.FieldType.object "java/lang/Object"))) ∈ TW := tw_in 329 rfl rfl
theorem tw_330 : Jvm.Cond.classLink "java/util/Arrays" (110 : Nat) "[Ljava/lang/Object;" ∈ TW := tw_in 330 (by decide +kernel) (by decide +kernel)
theorem tw_332 : Jvm.Cond.classLink "java/util/Arrays" (2 : Nat) "java/lang/Object" ∈ TW := tw_in 332 (by decide +kernel) (by decide +kernel)
theorem tw_333 : Jvm.Cond.methodLink "java/util/Arrays" (304 : Nat) ({ cls := "java/lang/Math", name := "min", desc := "(II)I" } : Jvm.MethodName) ∈ TW := tw_in 333 (by decide +kernel) (by decide +kernel)
theorem tw_334 : Jvm.Cond.static ({ cls := "java/lang/Math", name := "min", desc := "(II)I" } : Jvm.MethodName) ∈ TW := tw_in 334 (by decide +kernel) (by decide +kernel)
set_option maxRecDepth 100000 in
theorem tw_335 : Jvm.Cond.code ({ cls := "java/lang/Math", name := "min", desc := "(II)I" } : Jvm.MethodName) prog_19_method_69_code (2 : Nat) (Option.some Jvm.ClassFile.FieldType.int) ∈ TW := tw_in 335 rfl rfl
theorem tw_336 : Jvm.Cond.methodLink "java/util/Arrays" (150 : Nat) ({ cls := "java/lang/System", name := "arraycopy", desc := "(Ljava/lang/Object;ILjava/lang/Object;II)V" } : Jvm.MethodName) ∈ TW := tw_in 336 (by decide +kernel) (by decide +kernel)
theorem tw_337 : Jvm.Cond.static ({ cls := "java/lang/System", name := "arraycopy", desc := "(Ljava/lang/Object;ILjava/lang/Object;II)V" } : Jvm.MethodName) ∈ TW := tw_in 337 (by decide +kernel) (by decide +kernel)
theorem tw_339 : Jvm.Cond.methodLink "java/util/ArrayList" (79 : Nat) ({ cls := "java/lang/Math", name := "max", desc := "(II)I" } : Jvm.MethodName) ∈ TW := tw_in 339 (by decide +kernel) (by decide +kernel)
theorem tw_340 : Jvm.Cond.classLink "java/util/ArrayList" (7 : Nat) "java/lang/Object" ∈ TW := tw_in 340 (by decide +kernel) (by decide +kernel)
theorem tw_341 : Jvm.Cond.methodLink "TokenHouseLaw" (55 : Nat) ({ cls := "TokenHouse", name := "token", desc := "(IIJ)Z" } : Jvm.MethodName) ∈ TW := tw_in 341 (by decide +kernel) (by decide +kernel)
theorem tw_342 : Jvm.Cond.instanceMethod ({ cls := "TokenHouse", name := "token", desc := "(IIJ)Z" } : Jvm.MethodName) ∈ TW := tw_in 342 (by decide +kernel) (by decide +kernel)
theorem tw_343 : Jvm.Cond.selects "TokenHouse" ({ cls := "TokenHouse", name := "token", desc := "(IIJ)Z" } : Jvm.MethodName) ({ cls := "TokenHouse", name := "token", desc := "(IIJ)Z" } : Jvm.MethodName) ∈ TW := tw_in 343 (by decide +kernel) (by decide +kernel)
set_option maxRecDepth 100000 in
theorem tw_344 : Jvm.Cond.code ({ cls := "TokenHouse", name := "token", desc := "(IIJ)Z" } : Jvm.MethodName) prog_1_method_4_code (6 : Nat) (Option.some Jvm.ClassFile.FieldType.boolean) ∈ TW := tw_in 344 rfl rfl
theorem tw_345 : Jvm.Cond.methodLink "TokenHouse" (112 : Nat) ({ cls := "TokenHouse", name := "come", desc := "(LTokenHouse$Node;ILTokenHouse$Value;I)V" } : Jvm.MethodName) ∈ TW := tw_in 345 (by decide +kernel) (by decide +kernel)
theorem tw_347 : Jvm.Cond.instanceMethod ({ cls := "TokenHouse", name := "come", desc := "(LTokenHouse$Node;ILTokenHouse$Value;I)V" } : Jvm.MethodName) ∈ TW := tw_in 347 (by decide +kernel) (by decide +kernel)
set_option maxRecDepth 100000 in
theorem tw_348 : Jvm.Cond.code ({ cls := "TokenHouse", name := "come", desc := "(LTokenHouse$Node;ILTokenHouse$Value;I)V" } : Jvm.MethodName) prog_1_method_14_code (6 : Nat) (Option.none : Option Jvm.ClassFile.FieldType) ∈ TW := tw_in 348 rfl rfl
theorem tw_349 : Jvm.Cond.methodLink "TokenHouse" (214 : Nat) ({ cls := "TokenHouse$Node", name := "frameIn", desc := "(I)LTokenHouse$Frame;" } : Jvm.MethodName) ∈ TW := tw_in 349 (by decide +kernel) (by decide +kernel)
theorem tw_350 : Jvm.Cond.instanceMethod ({ cls := "TokenHouse$Node", name := "frameIn", desc := "(I)LTokenHouse$Frame;" } : Jvm.MethodName) ∈ TW := tw_in 350 (by decide +kernel) (by decide +kernel)
theorem tw_351 : Jvm.Cond.selects "TokenHouse$Node" ({ cls := "TokenHouse$Node", name := "frameIn", desc := "(I)LTokenHouse$Frame;" } : Jvm.MethodName) ({ cls := "TokenHouse$Node", name := "frameIn", desc := "(I)LTokenHouse$Frame;" } : Jvm.MethodName) ∈ TW := tw_in 351 (by decide +kernel) (by decide +kernel)
set_option maxRecDepth 100000 in
theorem tw_352 : Jvm.Cond.code ({ cls := "TokenHouse$Node", name := "frameIn", desc := "(I)LTokenHouse$Frame;" } : Jvm.MethodName) prog_8_method_5_code (4 : Nat) (Option.some (Jvm.ClassFile.FieldType.object "TokenHouse$Frame")) ∈ TW := tw_in 352 rfl rfl
theorem tw_353 : Jvm.Cond.methodLink "TokenHouse$Node" (53 : Nat) ({ cls := "java/util/ArrayList", name := "get", desc := "(I)Ljava/lang/Object;" } : Jvm.MethodName) ∈ TW := tw_in 353 (by decide +kernel) (by decide +kernel)
theorem tw_354 : Jvm.Cond.classLink "TokenHouse$Node" (57 : Nat) "TokenHouse$Frame" ∈ TW := tw_in 354 (by decide +kernel) (by decide +kernel)
theorem tw_355 : Jvm.Cond.methodLink "TokenHouse" (227 : Nat) ({ cls := "TokenHouse$Frame", name := "holds", desc := "(I)Z" } : Jvm.MethodName) ∈ TW := tw_in 355 (by decide +kernel) (by decide +kernel)
theorem tw_356 : Jvm.Cond.instanceMethod ({ cls := "TokenHouse$Frame", name := "holds", desc := "(I)Z" } : Jvm.MethodName) ∈ TW := tw_in 356 (by decide +kernel) (by decide +kernel)
theorem tw_357 : Jvm.Cond.selects "TokenHouse$Frame" ({ cls := "TokenHouse$Frame", name := "holds", desc := "(I)Z" } : Jvm.MethodName) ({ cls := "TokenHouse$Frame", name := "holds", desc := "(I)Z" } : Jvm.MethodName) ∈ TW := tw_in 357 (by decide +kernel) (by decide +kernel)
set_option maxRecDepth 100000 in
theorem tw_358 : Jvm.Cond.code ({ cls := "TokenHouse$Frame", name := "holds", desc := "(I)Z" } : Jvm.MethodName) prog_6_method_2_code (2 : Nat) (Option.some Jvm.ClassFile.FieldType.boolean) ∈ TW := tw_in 358 rfl rfl
theorem tw_359 : Jvm.Cond.methodLink "TokenHouse" (230 : Nat) ({ cls := "TokenHouse$Frames", name := "take", desc := "(LTokenHouse$Node;I)LTokenHouse$Frame;" } : Jvm.MethodName) ∈ TW := tw_in 359 (by decide +kernel) (by decide +kernel)
theorem tw_360 : Jvm.Cond.instanceMethod ({ cls := "TokenHouse$Frames", name := "take", desc := "(LTokenHouse$Node;I)LTokenHouse$Frame;" } : Jvm.MethodName) ∈ TW := tw_in 360 (by decide +kernel) (by decide +kernel)
theorem tw_361 : Jvm.Cond.selects "TokenHouse$Frames" ({ cls := "TokenHouse$Frames", name := "take", desc := "(LTokenHouse$Node;I)LTokenHouse$Frame;" } : Jvm.MethodName) ({ cls := "TokenHouse$Frames", name := "take", desc := "(LTokenHouse$Node;I)LTokenHouse$Frame;" } : Jvm.MethodName) ∈ TW := tw_in 361 (by decide +kernel) (by decide +kernel)
set_option maxRecDepth 100000 in
theorem tw_362 : Jvm.Cond.code ({ cls := "TokenHouse$Frames", name := "take", desc := "(LTokenHouse$Node;I)LTokenHouse$Frame;" } : Jvm.MethodName) prog_7_method_2_code (4 : Nat) (Option.some (Jvm.ClassFile.FieldType.object "TokenHouse$Frame")) ∈ TW := tw_in 362 rfl rfl
theorem tw_363 : Jvm.Cond.methodLink "TokenHouse$Frames" (23 : Nat) ({ cls := "java/util/ArrayList", name := "isEmpty", desc := "()Z" } : Jvm.MethodName) ∈ TW := tw_in 363 (by decide +kernel) (by decide +kernel)
theorem tw_364 : Jvm.Cond.instanceMethod ({ cls := "java/util/ArrayList", name := "isEmpty", desc := "()Z" } : Jvm.MethodName) ∈ TW := tw_in 364 (by decide +kernel) (by decide +kernel)
theorem tw_365 : Jvm.Cond.selects "java/util/ArrayList" ({ cls := "java/util/ArrayList", name := "isEmpty", desc := "()Z" } : Jvm.MethodName) ({ cls := "java/util/ArrayList", name := "isEmpty", desc := "()Z" } : Jvm.MethodName) ∈ TW := tw_in 365 (by decide +kernel) (by decide +kernel)
set_option maxRecDepth 100000 in
theorem tw_366 : Jvm.Cond.code ({ cls := "java/util/ArrayList", name := "isEmpty", desc := "()Z" } : Jvm.MethodName) prog_26_method_9_code (1 : Nat) (Option.some Jvm.ClassFile.FieldType.boolean) ∈ TW := tw_in 366 rfl rfl
theorem tw_367 : Jvm.Cond.classLink "TokenHouse$Frames" (27 : Nat) "TokenHouse$Frame" ∈ TW := tw_in 367 (by decide +kernel) (by decide +kernel)
theorem tw_368 : Jvm.Cond.instantiable "TokenHouse$Frame" (5 : Nat) ∈ TW := tw_in 368 (by decide +kernel) (by decide +kernel)
theorem tw_369 : Jvm.Cond.methodLink "TokenHouse$Frames" (29 : Nat) ({ cls := "TokenHouse$Frame", name := "<init>", desc := "(LTokenHouse$Value;LTokenHouse$Node;I)V" } : Jvm.MethodName) ∈ TW := tw_in 369 (by decide +kernel) (by decide +kernel)
theorem tw_370 : Jvm.Cond.instanceMethod ({ cls := "TokenHouse$Frame", name := "<init>", desc := "(LTokenHouse$Value;LTokenHouse$Node;I)V" } : Jvm.MethodName) ∈ TW := tw_in 370 (by decide +kernel) (by decide +kernel)
set_option maxRecDepth 100000 in
theorem tw_371 : Jvm.Cond.code ({ cls := "TokenHouse$Frame", name := "<init>", desc := "(LTokenHouse$Value;LTokenHouse$Node;I)V" } : Jvm.MethodName) prog_6_method_1_code (5 : Nat) (Option.none : Option Jvm.ClassFile.FieldType) ∈ TW := tw_in 371 rfl rfl
theorem tw_372 : Jvm.Cond.methodLink "TokenHouse$Frame" (3 : Nat) ({ cls := "java/lang/Object", name := "<init>", desc := "()V" } : Jvm.MethodName) ∈ TW := tw_in 372 (by decide +kernel) (by decide +kernel)
theorem tw_373 : Jvm.Cond.classLink "TokenHouse$Frame" (15 : Nat) "TokenHouse$Value" ∈ TW := tw_in 373 (by decide +kernel) (by decide +kernel)
theorem tw_375 : Jvm.Cond.fieldLink "TokenHouse$Frame" (9 : Nat) "TokenHouse$Frame" "nothing" "LTokenHouse$Value;" ∈ TW := tw_in 375 (by decide +kernel) (by decide +kernel)
theorem tw_376 : Jvm.Cond.fieldLink "TokenHouse$Frame" (17 : Nat) "TokenHouse$Frame" "values" "[LTokenHouse$Value;" ∈ TW := tw_in 376 (by decide +kernel) (by decide +kernel)
theorem tw_377 : Jvm.Cond.fieldLink "TokenHouse" (259 : Nat) "TokenHouse$Frame" "values" "[LTokenHouse$Value;" ∈ TW := tw_in 377 (by decide +kernel) (by decide +kernel)
theorem tw_378 : Jvm.Cond.fieldLink "TokenHouse$Frame" (21 : Nat) "TokenHouse$Frame" "node" "LTokenHouse$Node;" ∈ TW := tw_in 378 (by decide +kernel) (by decide +kernel)
theorem tw_379 : Jvm.Cond.fieldLink "TokenHouse$Frames" (44 : Nat) "TokenHouse$Frame" "node" "LTokenHouse$Node;" ∈ TW := tw_in 379 (by decide +kernel) (by decide +kernel)
theorem tw_380 : Jvm.Cond.fieldLink "TokenHouse" (161 : Nat) "TokenHouse$Frame" "node" "LTokenHouse$Node;" ∈ TW := tw_in 380 (by decide +kernel) (by decide +kernel)
theorem tw_381 : Jvm.Cond.fieldLink "TokenHouse$Frame" (25 : Nat) "TokenHouse$Frame" "context" "I" ∈ TW := tw_in 381 (by decide +kernel) (by decide +kernel)
theorem tw_382 : Jvm.Cond.fieldLink "TokenHouse$Frames" (48 : Nat) "TokenHouse$Frame" "context" "I" ∈ TW := tw_in 382 (by decide +kernel) (by decide +kernel)
theorem tw_383 : Jvm.Cond.fieldLink "TokenHouse$Node" (59 : Nat) "TokenHouse$Frame" "context" "I" ∈ TW := tw_in 383 (by decide +kernel) (by decide +kernel)
theorem tw_384 : Jvm.Cond.fieldLink "TokenHouse" (168 : Nat) "TokenHouse$Frame" "context" "I" ∈ TW := tw_in 384 (by decide +kernel) (by decide +kernel)
theorem tw_385 : Jvm.Cond.fieldLink "TokenHouse$Frame" (32 : Nat) "TokenHouse$Frame" "came" "I" ∈ TW := tw_in 385 (by decide +kernel) (by decide +kernel)
theorem tw_386 : Jvm.Cond.fieldLink "TokenHouse" (218 : Nat) "TokenHouse$Frame" "came" "I" ∈ TW := tw_in 386 (by decide +kernel) (by decide +kernel)
theorem tw_398 : Jvm.Cond.methodLink "TokenHouse$Frames" (32 : Nat) ({ cls := "java/util/ArrayList", name := "add", desc := "(Ljava/lang/Object;)Z" } : Jvm.MethodName) ∈ TW := tw_in 398 (by decide +kernel) (by decide +kernel)
theorem tw_399 : Jvm.Cond.methodLink "TokenHouse$Frames" (36 : Nat) ({ cls := "java/util/ArrayList", name := "size", desc := "()I" } : Jvm.MethodName) ∈ TW := tw_in 399 (by decide +kernel) (by decide +kernel)
theorem tw_400 : Jvm.Cond.methodLink "TokenHouse$Frames" (40 : Nat) ({ cls := "java/util/ArrayList", name := "remove", desc := "(I)Ljava/lang/Object;" } : Jvm.MethodName) ∈ TW := tw_in 400 (by decide +kernel) (by decide +kernel)
theorem tw_401 : Jvm.Cond.instanceMethod ({ cls := "java/util/ArrayList", name := "remove", desc := "(I)Ljava/lang/Object;" } : Jvm.MethodName) ∈ TW := tw_in 401 (by decide +kernel) (by decide +kernel)
theorem tw_402 : Jvm.Cond.selects "java/util/ArrayList" ({ cls := "java/util/ArrayList", name := "remove", desc := "(I)Ljava/lang/Object;" } : Jvm.MethodName) ({ cls := "java/util/ArrayList", name := "remove", desc := "(I)Ljava/lang/Object;" } : Jvm.MethodName) ∈ TW := tw_in 402 (by decide +kernel) (by decide +kernel)
set_option maxRecDepth 100000 in
theorem tw_403 : Jvm.Cond.code ({ cls := "java/util/ArrayList", name := "remove", desc := "(I)Ljava/lang/Object;" } : Jvm.MethodName) prog_26_method_29_code (4 : Nat) (Option.some (Jvm.ClassFile.FieldType.object "java/lang/Object")) ∈ TW := tw_in 403 rfl rfl
theorem tw_404 : Jvm.Cond.methodLink "java/util/ArrayList" (144 : Nat) ({ cls := "java/util/ArrayList", name := "fastRemove", desc := "([Ljava/lang/Object;I)V" } : Jvm.MethodName) ∈ TW := tw_in 404 (by decide +kernel) (by decide +kernel)
theorem tw_406 : Jvm.Cond.instanceMethod ({ cls := "java/util/ArrayList", name := "fastRemove", desc := "([Ljava/lang/Object;I)V" } : Jvm.MethodName) ∈ TW := tw_in 406 (by decide +kernel) (by decide +kernel)
set_option maxRecDepth 100000 in
theorem tw_407 : Jvm.Cond.code ({ cls := "java/util/ArrayList", name := "fastRemove", desc := "([Ljava/lang/Object;I)V" } : Jvm.MethodName) prog_26_method_39_code (4 : Nat) (Option.none : Option Jvm.ClassFile.FieldType) ∈ TW := tw_in 407 rfl rfl
theorem tw_408 : Jvm.Cond.methodLink "java/util/ArrayList" (112 : Nat) ({ cls := "java/lang/System", name := "arraycopy", desc := "(Ljava/lang/Object;ILjava/lang/Object;II)V" } : Jvm.MethodName) ∈ TW := tw_in 408 (by decide +kernel) (by decide +kernel)
theorem tw_409 : Jvm.Cond.methodLink "TokenHouse" (89 : Nat) ({ cls := "java/util/ArrayList", name := "add", desc := "(Ljava/lang/Object;)Z" } : Jvm.MethodName) ∈ TW := tw_in 409 (by decide +kernel) (by decide +kernel)
theorem tw_410 : Jvm.Cond.methodLink "TokenHouse" (234 : Nat) ({ cls := "TokenHouse$Frame", name := "put", desc := "(ILTokenHouse$Value;)V" } : Jvm.MethodName) ∈ TW := tw_in 410 (by decide +kernel) (by decide +kernel)
theorem tw_411 : Jvm.Cond.instanceMethod ({ cls := "TokenHouse$Frame", name := "put", desc := "(ILTokenHouse$Value;)V" } : Jvm.MethodName) ∈ TW := tw_in 411 (by decide +kernel) (by decide +kernel)
theorem tw_412 : Jvm.Cond.selects "TokenHouse$Frame" ({ cls := "TokenHouse$Frame", name := "put", desc := "(ILTokenHouse$Value;)V" } : Jvm.MethodName) ({ cls := "TokenHouse$Frame", name := "put", desc := "(ILTokenHouse$Value;)V" } : Jvm.MethodName) ∈ TW := tw_in 412 (by decide +kernel) (by decide +kernel)
set_option maxRecDepth 100000 in
theorem tw_413 : Jvm.Cond.code ({ cls := "TokenHouse$Frame", name := "put", desc := "(ILTokenHouse$Value;)V" } : Jvm.MethodName) prog_6_method_3_code (3 : Nat) (Option.none : Option Jvm.ClassFile.FieldType) ∈ TW := tw_in 413 rfl rfl
theorem tw_414 : Jvm.Cond.methodLink "TokenHouse" (241 : Nat) ({ cls := "TokenHouse$Node", name := "dropFrameIn", desc := "(I)V" } : Jvm.MethodName) ∈ TW := tw_in 414 (by decide +kernel) (by decide +kernel)
theorem tw_415 : Jvm.Cond.instanceMethod ({ cls := "TokenHouse$Node", name := "dropFrameIn", desc := "(I)V" } : Jvm.MethodName) ∈ TW := tw_in 415 (by decide +kernel) (by decide +kernel)
theorem tw_416 : Jvm.Cond.selects "TokenHouse$Node" ({ cls := "TokenHouse$Node", name := "dropFrameIn", desc := "(I)V" } : Jvm.MethodName) ({ cls := "TokenHouse$Node", name := "dropFrameIn", desc := "(I)V" } : Jvm.MethodName) ∈ TW := tw_in 416 (by decide +kernel) (by decide +kernel)
set_option maxRecDepth 100000 in
theorem tw_417 : Jvm.Cond.code ({ cls := "TokenHouse$Node", name := "dropFrameIn", desc := "(I)V" } : Jvm.MethodName) prog_8_method_6_code (3 : Nat) (Option.none : Option Jvm.ClassFile.FieldType) ∈ TW := tw_in 417 rfl rfl
theorem tw_418 : Jvm.Cond.methodLink "TokenHouse$Node" (62 : Nat) ({ cls := "java/util/ArrayList", name := "remove", desc := "(I)Ljava/lang/Object;" } : Jvm.MethodName) ∈ TW := tw_in 418 (by decide +kernel) (by decide +kernel)
theorem tw_419 : Jvm.Cond.methodLink "TokenHouseLaw" (64 : Nat) ({ cls := "TokenHouse", name := "clear", desc := "(Z)V" } : Jvm.MethodName) ∈ TW := tw_in 419 (by decide +kernel) (by decide +kernel)
theorem tw_420 : Jvm.Cond.instanceMethod ({ cls := "TokenHouse", name := "clear", desc := "(Z)V" } : Jvm.MethodName) ∈ TW := tw_in 420 (by decide +kernel) (by decide +kernel)
theorem tw_421 : Jvm.Cond.selects "TokenHouse" ({ cls := "TokenHouse", name := "clear", desc := "(Z)V" } : Jvm.MethodName) ({ cls := "TokenHouse", name := "clear", desc := "(Z)V" } : Jvm.MethodName) ∈ TW := tw_in 421 (by decide +kernel) (by decide +kernel)
set_option maxRecDepth 100000 in
theorem tw_422 : Jvm.Cond.code ({ cls := "TokenHouse", name := "clear", desc := "(Z)V" } : Jvm.MethodName) prog_1_method_6_code (3 : Nat) (Option.none : Option Jvm.ClassFile.FieldType) ∈ TW := tw_in 422 rfl rfl
theorem tw_423 : Jvm.Cond.methodLink "TokenHouse" (140 : Nat) ({ cls := "java/util/ArrayList", name := "clear", desc := "()V" } : Jvm.MethodName) ∈ TW := tw_in 423 (by decide +kernel) (by decide +kernel)
theorem tw_424 : Jvm.Cond.instanceMethod ({ cls := "java/util/ArrayList", name := "clear", desc := "()V" } : Jvm.MethodName) ∈ TW := tw_in 424 (by decide +kernel) (by decide +kernel)
theorem tw_425 : Jvm.Cond.selects "java/util/ArrayList" ({ cls := "java/util/ArrayList", name := "clear", desc := "()V" } : Jvm.MethodName) ({ cls := "java/util/ArrayList", name := "clear", desc := "()V" } : Jvm.MethodName) ∈ TW := tw_in 425 (by decide +kernel) (by decide +kernel)
set_option maxRecDepth 100000 in
theorem tw_426 : Jvm.Cond.code ({ cls := "java/util/ArrayList", name := "clear", desc := "()V" } : Jvm.MethodName) prog_26_method_40_code (4 : Nat) (Option.none : Option Jvm.ClassFile.FieldType) ∈ TW := tw_in 426 rfl rfl
theorem tw_427 : Jvm.Cond.methodLink "TokenHouse" (148 : Nat) ({ cls := "TokenHouse$Cells", name := "forgetAll", desc := "()V" } : Jvm.MethodName) ∈ TW := tw_in 427 (by decide +kernel) (by decide +kernel)
theorem tw_428 : Jvm.Cond.instanceMethod ({ cls := "TokenHouse$Cells", name := "forgetAll", desc := "()V" } : Jvm.MethodName) ∈ TW := tw_in 428 (by decide +kernel) (by decide +kernel)
theorem tw_429 : Jvm.Cond.selects "TokenHouse$Cells" ({ cls := "TokenHouse$Cells", name := "forgetAll", desc := "()V" } : Jvm.MethodName) ({ cls := "TokenHouse$Cells", name := "forgetAll", desc := "()V" } : Jvm.MethodName) ∈ TW := tw_in 429 (by decide +kernel) (by decide +kernel)
set_option maxRecDepth 100000 in
theorem tw_430 : Jvm.Cond.code ({ cls := "TokenHouse$Cells", name := "forgetAll", desc := "()V" } : Jvm.MethodName) prog_4_method_4_code (2 : Nat) (Option.none : Option Jvm.ClassFile.FieldType) ∈ TW := tw_in 430 rfl rfl
theorem tw_431 : Jvm.Cond.methodLink "TokenHouse$Cells" (39 : Nat) ({ cls := "java/util/ArrayList", name := "clear", desc := "()V" } : Jvm.MethodName) ∈ TW := tw_in 431 (by decide +kernel) (by decide +kernel)
theorem tw_432 : Jvm.Cond.methodLink "TokenHouse" (151 : Nat) ({ cls := "TokenHouse$Frames", name := "takeAllBack", desc := "()V" } : Jvm.MethodName) ∈ TW := tw_in 432 (by decide +kernel) (by decide +kernel)
theorem tw_433 : Jvm.Cond.instanceMethod ({ cls := "TokenHouse$Frames", name := "takeAllBack", desc := "()V" } : Jvm.MethodName) ∈ TW := tw_in 433 (by decide +kernel) (by decide +kernel)
theorem tw_434 : Jvm.Cond.selects "TokenHouse$Frames" ({ cls := "TokenHouse$Frames", name := "takeAllBack", desc := "()V" } : Jvm.MethodName) ({ cls := "TokenHouse$Frames", name := "takeAllBack", desc := "()V" } : Jvm.MethodName) ∈ TW := tw_in 434 (by decide +kernel) (by decide +kernel)
set_option maxRecDepth 100000 in
theorem tw_435 : Jvm.Cond.code ({ cls := "TokenHouse$Frames", name := "takeAllBack", desc := "()V" } : Jvm.MethodName) prog_7_method_4_code (2 : Nat) (Option.none : Option Jvm.ClassFile.FieldType) ∈ TW := tw_in 435 rfl rfl
theorem tw_436 : Jvm.Cond.methodLink "TokenHouse$Frames" (55 : Nat) ({ cls := "java/util/ArrayList", name := "clear", desc := "()V" } : Jvm.MethodName) ∈ TW := tw_in 436 (by decide +kernel) (by decide +kernel)
theorem tw_437 : Jvm.Cond.methodLink "TokenHouse$Frames" (58 : Nat) ({ cls := "java/util/ArrayList", name := "get", desc := "(I)Ljava/lang/Object;" } : Jvm.MethodName) ∈ TW := tw_in 437 (by decide +kernel) (by decide +kernel)
theorem tw_438 : Jvm.Cond.methodLink "TokenHouse$Frames" (61 : Nat) ({ cls := "TokenHouse$Frames", name := "takeBack", desc := "(LTokenHouse$Frame;)V" } : Jvm.MethodName) ∈ TW := tw_in 438 (by decide +kernel) (by decide +kernel)
theorem tw_439 : Jvm.Cond.instanceMethod ({ cls := "TokenHouse$Frames", name := "takeBack", desc := "(LTokenHouse$Frame;)V" } : Jvm.MethodName) ∈ TW := tw_in 439 (by decide +kernel) (by decide +kernel)
theorem tw_440 : Jvm.Cond.selects "TokenHouse$Frames" ({ cls := "TokenHouse$Frames", name := "takeBack", desc := "(LTokenHouse$Frame;)V" } : Jvm.MethodName) ({ cls := "TokenHouse$Frames", name := "takeBack", desc := "(LTokenHouse$Frame;)V" } : Jvm.MethodName) ∈ TW := tw_in 440 (by decide +kernel) (by decide +kernel)
set_option maxRecDepth 100000 in
theorem tw_441 : Jvm.Cond.code ({ cls := "TokenHouse$Frames", name := "takeBack", desc := "(LTokenHouse$Frame;)V" } : Jvm.MethodName) prog_7_method_3_code (2 : Nat) (Option.none : Option Jvm.ClassFile.FieldType) ∈ TW := tw_in 441 rfl rfl
theorem tw_442 : Jvm.Cond.methodLink "TokenHouse$Frames" (52 : Nat) ({ cls := "TokenHouse$Frame", name := "empty", desc := "()V" } : Jvm.MethodName) ∈ TW := tw_in 442 (by decide +kernel) (by decide +kernel)
theorem tw_443 : Jvm.Cond.instanceMethod ({ cls := "TokenHouse$Frame", name := "empty", desc := "()V" } : Jvm.MethodName) ∈ TW := tw_in 443 (by decide +kernel) (by decide +kernel)
theorem tw_444 : Jvm.Cond.selects "TokenHouse$Frame" ({ cls := "TokenHouse$Frame", name := "empty", desc := "()V" } : Jvm.MethodName) ({ cls := "TokenHouse$Frame", name := "empty", desc := "()V" } : Jvm.MethodName) ∈ TW := tw_in 444 (by decide +kernel) (by decide +kernel)
set_option maxRecDepth 100000 in
theorem tw_445 : Jvm.Cond.code ({ cls := "TokenHouse$Frame", name := "empty", desc := "()V" } : Jvm.MethodName) prog_6_method_4_code (2 : Nat) (Option.none : Option Jvm.ClassFile.FieldType) ∈ TW := tw_in 445 rfl rfl
theorem tw_446 : Jvm.Cond.methodLink "TokenHouse" (154 : Nat) ({ cls := "TokenHouse$Contexts", name := "forgetAll", desc := "()V" } : Jvm.MethodName) ∈ TW := tw_in 446 (by decide +kernel) (by decide +kernel)
theorem tw_447 : Jvm.Cond.instanceMethod ({ cls := "TokenHouse$Contexts", name := "forgetAll", desc := "()V" } : Jvm.MethodName) ∈ TW := tw_in 447 (by decide +kernel) (by decide +kernel)
theorem tw_448 : Jvm.Cond.selects "TokenHouse$Contexts" ({ cls := "TokenHouse$Contexts", name := "forgetAll", desc := "()V" } : Jvm.MethodName) ({ cls := "TokenHouse$Contexts", name := "forgetAll", desc := "()V" } : Jvm.MethodName) ∈ TW := tw_in 448 (by decide +kernel) (by decide +kernel)
set_option maxRecDepth 100000 in
theorem tw_449 : Jvm.Cond.code ({ cls := "TokenHouse$Contexts", name := "forgetAll", desc := "()V" } : Jvm.MethodName) prog_5_method_8_code (1 : Nat) (Option.none : Option Jvm.ClassFile.FieldType) ∈ TW := tw_in 449 rfl rfl
theorem tw_450 : Jvm.Cond.methodLink "TokenHouseLaw" (69 : Nat) ({ cls := "TokenHouse", name := "ready", desc := "(II)I" } : Jvm.MethodName) ∈ TW := tw_in 450 (by decide +kernel) (by decide +kernel)
theorem tw_451 : Jvm.Cond.instanceMethod ({ cls := "TokenHouse", name := "ready", desc := "(II)I" } : Jvm.MethodName) ∈ TW := tw_in 451 (by decide +kernel) (by decide +kernel)
theorem tw_452 : Jvm.Cond.selects "TokenHouse" ({ cls := "TokenHouse", name := "ready", desc := "(II)I" } : Jvm.MethodName) ({ cls := "TokenHouse", name := "ready", desc := "(II)I" } : Jvm.MethodName) ∈ TW := tw_in 452 (by decide +kernel) (by decide +kernel)
set_option maxRecDepth 100000 in
theorem tw_453 : Jvm.Cond.code ({ cls := "TokenHouse", name := "ready", desc := "(II)I" } : Jvm.MethodName) prog_1_method_7_code (4 : Nat) (Option.some Jvm.ClassFile.FieldType.int) ∈ TW := tw_in 453 rfl rfl
theorem tw_454 : Jvm.Cond.classLink "TokenHouse" (134 : Nat) "TokenHouse$Frame" ∈ TW := tw_in 454 (by decide +kernel) (by decide +kernel)
theorem tw_455 : Jvm.Cond.methodLink "TokenHouseLaw" (83 : Nat) ({ cls := "TokenHouse", name := "waiting", desc := "(II)I" } : Jvm.MethodName) ∈ TW := tw_in 455 (by decide +kernel) (by decide +kernel)
theorem tw_456 : Jvm.Cond.instanceMethod ({ cls := "TokenHouse", name := "waiting", desc := "(II)I" } : Jvm.MethodName) ∈ TW := tw_in 456 (by decide +kernel) (by decide +kernel)
theorem tw_457 : Jvm.Cond.selects "TokenHouse" ({ cls := "TokenHouse", name := "waiting", desc := "(II)I" } : Jvm.MethodName) ({ cls := "TokenHouse", name := "waiting", desc := "(II)I" } : Jvm.MethodName) ∈ TW := tw_in 457 (by decide +kernel) (by decide +kernel)
set_option maxRecDepth 100000 in
theorem tw_458 : Jvm.Cond.code ({ cls := "TokenHouse", name := "waiting", desc := "(II)I" } : Jvm.MethodName) prog_1_method_11_code (5 : Nat) (Option.some Jvm.ClassFile.FieldType.int) ∈ TW := tw_in 458 rfl rfl
theorem tw_459 : Jvm.Cond.methodLink "TokenHouse" (188 : Nat) ({ cls := "TokenHouse$Contexts", name := "has", desc := "(I)Z" } : Jvm.MethodName) ∈ TW := tw_in 459 (by decide +kernel) (by decide +kernel)
theorem tw_460 : Jvm.Cond.instanceMethod ({ cls := "TokenHouse$Contexts", name := "has", desc := "(I)Z" } : Jvm.MethodName) ∈ TW := tw_in 460 (by decide +kernel) (by decide +kernel)
theorem tw_461 : Jvm.Cond.selects "TokenHouse$Contexts" ({ cls := "TokenHouse$Contexts", name := "has", desc := "(I)Z" } : Jvm.MethodName) ({ cls := "TokenHouse$Contexts", name := "has", desc := "(I)Z" } : Jvm.MethodName) ∈ TW := tw_in 461 (by decide +kernel) (by decide +kernel)
set_option maxRecDepth 100000 in
theorem tw_462 : Jvm.Cond.code ({ cls := "TokenHouse$Contexts", name := "has", desc := "(I)Z" } : Jvm.MethodName) prog_5_method_2_code (2 : Nat) (Option.some Jvm.ClassFile.FieldType.boolean) ∈ TW := tw_in 462 rfl rfl
theorem tw_463 : Jvm.Cond.methodLink "TokenHouseLaw" (87 : Nat) ({ cls := "TokenHouse", name := "total", desc := "(I)I" } : Jvm.MethodName) ∈ TW := tw_in 463 (by decide +kernel) (by decide +kernel)
theorem tw_464 : Jvm.Cond.instanceMethod ({ cls := "TokenHouse", name := "total", desc := "(I)I" } : Jvm.MethodName) ∈ TW := tw_in 464 (by decide +kernel) (by decide +kernel)
theorem tw_465 : Jvm.Cond.selects "TokenHouse" ({ cls := "TokenHouse", name := "total", desc := "(I)I" } : Jvm.MethodName) ({ cls := "TokenHouse", name := "total", desc := "(I)I" } : Jvm.MethodName) ∈ TW := tw_in 465 (by decide +kernel) (by decide +kernel)
set_option maxRecDepth 100000 in
theorem tw_466 : Jvm.Cond.code ({ cls := "TokenHouse", name := "total", desc := "(I)I" } : Jvm.MethodName) prog_1_method_12_code (2 : Nat) (Option.some Jvm.ClassFile.FieldType.int) ∈ TW := tw_in 466 rfl rfl
theorem tw_467 : Jvm.Cond.methodLink "TokenHouseLaw" (38 : Nat) ({ cls := "TokenHouseLaw", name := "node", desc := "(LTokenHouse;II[J)I" } : Jvm.MethodName) ∈ TW := tw_in 467 (by decide +kernel) (by decide +kernel)
theorem tw_468 : Jvm.Cond.static ({ cls := "TokenHouseLaw", name := "node", desc := "(LTokenHouse;II[J)I" } : Jvm.MethodName) ∈ TW := tw_in 468 (by decide +kernel) (by decide +kernel)
theorem tw_470 : Jvm.Cond.classLink "TokenHouseLaw" (13 : Nat) "java/lang/IllegalArgumentException" ∈ TW := tw_in 470 (by decide +kernel) (by decide +kernel)
theorem tw_471 : Jvm.Cond.classLink "TokenHouseLaw" (15 : Nat) "java/lang/IllegalStateException" ∈ TW := tw_in 471 (by decide +kernel) (by decide +kernel)
theorem tw_472 : Jvm.Cond.methodLink "TokenHouseLaw" (7 : Nat) ({ cls := "TokenHouse", name := "node", desc := "(II)I" } : Jvm.MethodName) ∈ TW := tw_in 472 (by decide +kernel) (by decide +kernel)
theorem tw_473 : Jvm.Cond.instanceMethod ({ cls := "TokenHouse", name := "node", desc := "(II)I" } : Jvm.MethodName) ∈ TW := tw_in 473 (by decide +kernel) (by decide +kernel)
theorem tw_474 : Jvm.Cond.selects "TokenHouse" ({ cls := "TokenHouse", name := "node", desc := "(II)I" } : Jvm.MethodName) ({ cls := "TokenHouse", name := "node", desc := "(II)I" } : Jvm.MethodName) ∈ TW := tw_in 474 (by decide +kernel) (by decide +kernel)
set_option maxRecDepth 100000 in
theorem tw_475 : Jvm.Cond.code ({ cls := "TokenHouse", name := "node", desc := "(II)I" } : Jvm.MethodName) prog_1_method_2_code (4 : Nat) (Option.some Jvm.ClassFile.FieldType.int) ∈ TW := tw_in 475 rfl rfl
theorem tw_476 : Jvm.Cond.fieldLink "TokenHouse" (54 : Nat) "TokenHouse" "PORTS" "[I" ∈ TW := tw_in 476 (by decide +kernel) (by decide +kernel)
theorem tw_478 : Jvm.Cond.classLink "TokenHouse" (58 : Nat) "java/lang/IllegalArgumentException" ∈ TW := tw_in 478 (by decide +kernel) (by decide +kernel)
theorem tw_479 : Jvm.Cond.instantiable "java/lang/IllegalArgumentException" (6 : Nat) ∈ TW := tw_in 479 (by decide +kernel) (by decide +kernel)
theorem tw_487 : Jvm.Cond.selects "java/lang/IllegalArgumentException" ({ cls := "java/lang/Throwable", name := "fillInStackTrace", desc := "(I)Ljava/lang/Throwable;" } : Jvm.MethodName) ({ cls := "java/lang/Throwable", name := "fillInStackTrace", desc := "(I)Ljava/lang/Throwable;" } : Jvm.MethodName) ∈ TW := tw_in 487 (by decide +kernel) (by decide +kernel)
theorem tw_488 : Jvm.Cond.selects "java/lang/IllegalArgumentException" ({ cls := "java/lang/Throwable", name := "fillInStackTrace", desc := "()Ljava/lang/Throwable;" } : Jvm.MethodName) ({ cls := "java/lang/Throwable", name := "fillInStackTrace", desc := "()Ljava/lang/Throwable;" } : Jvm.MethodName) ∈ TW := tw_in 488 (by decide +kernel) (by decide +kernel)
theorem tw_499 : Jvm.Cond.fieldLink "java/lang/Throwable" (198 : Nat) "java/lang/Throwable" "backtrace" "Ljava/lang/Object;" ∈ TW := tw_in 499 (by decide +kernel) (by decide +kernel)
theorem tw_501 : Jvm.Cond.instanceMethod ({ cls := "java/lang/Throwable", name := "<init>", desc := "()V" } : Jvm.MethodName) ∈ TW := tw_in 501 (by decide +kernel) (by decide +kernel)
set_option maxRecDepth 100000 in
theorem tw_502 : Jvm.Cond.code ({ cls := "java/lang/Throwable", name := "<init>", desc := "()V" } : Jvm.MethodName) prog_23_method_1_code (1 : Nat) (Option.none : Option Jvm.ClassFile.FieldType) ∈ TW := tw_in 502 rfl rfl
theorem tw_503 : Jvm.Cond.methodLink "java/lang/Throwable" (1 : Nat) ({ cls := "java/lang/Object", name := "<init>", desc := "()V" } : Jvm.MethodName) ∈ TW := tw_in 503 (by decide +kernel) (by decide +kernel)
theorem tw_504 : Jvm.Cond.fieldLink "java/lang/Throwable" (13 : Nat) "java/lang/Throwable" "UNASSIGNED_STACK" "[Ljava/lang/StackTraceElement;" ∈ TW := tw_in 504 (by decide +kernel) (by decide +kernel)
theorem tw_506 : Jvm.Cond.fieldLink "java/lang/Throwable" (20 : Nat) "java/lang/Throwable" "SUPPRESSED_SENTINEL" "Ljava/util/List;" ∈ TW := tw_in 506 (by decide +kernel) (by decide +kernel)
theorem tw_508 : Jvm.Cond.methodLink "java/lang/Throwable" (27 : Nat) ({ cls := "java/lang/Throwable", name := "fillInStackTrace", desc := "()Ljava/lang/Throwable;" } : Jvm.MethodName) ∈ TW := tw_in 508 (by decide +kernel) (by decide +kernel)
theorem tw_509 : Jvm.Cond.instanceMethod ({ cls := "java/lang/Throwable", name := "fillInStackTrace", desc := "()Ljava/lang/Throwable;" } : Jvm.MethodName) ∈ TW := tw_in 509 (by decide +kernel) (by decide +kernel)
theorem tw_511 : Jvm.Cond.selects "java/lang/IllegalStateException" ({ cls := "java/lang/Throwable", name := "fillInStackTrace", desc := "()Ljava/lang/Throwable;" } : Jvm.MethodName) ({ cls := "java/lang/Throwable", name := "fillInStackTrace", desc := "()Ljava/lang/Throwable;" } : Jvm.MethodName) ∈ TW := tw_in 511 (by decide +kernel) (by decide +kernel)
theorem tw_512 : Jvm.Cond.selects "java/util/NoSuchElementException" ({ cls := "java/lang/Throwable", name := "fillInStackTrace", desc := "()Ljava/lang/Throwable;" } : Jvm.MethodName) ({ cls := "java/lang/Throwable", name := "fillInStackTrace", desc := "()Ljava/lang/Throwable;" } : Jvm.MethodName) ∈ TW := tw_in 512 (by decide +kernel) (by decide +kernel)
theorem tw_514 : Jvm.Cond.methodLink "java/lang/Throwable" (202 : Nat) ({ cls := "java/lang/Throwable", name := "fillInStackTrace", desc := "(I)Ljava/lang/Throwable;" } : Jvm.MethodName) ∈ TW := tw_in 514 (by decide +kernel) (by decide +kernel)
theorem tw_516 : Jvm.Cond.instanceMethod ({ cls := "java/lang/Throwable", name := "fillInStackTrace", desc := "(I)Ljava/lang/Throwable;" } : Jvm.MethodName) ∈ TW := tw_in 516 (by decide +kernel) (by decide +kernel)
theorem tw_517 : Jvm.Cond.instantiable "java/lang/Throwable" (6 : Nat) ∈ TW := tw_in 517 (by decide +kernel) (by decide +kernel)
theorem tw_520 : Jvm.Cond.methodLink "TokenHouse" (62 : Nat) ({ cls := "java/lang/IllegalArgumentException", name := "<init>", desc := "(Ljava/lang/String;)V" } : Jvm.MethodName) ∈ TW := tw_in 520 (by decide +kernel) (by decide +kernel)
theorem tw_521 : Jvm.Cond.instanceMethod ({ cls := "java/lang/IllegalArgumentException", name := "<init>", desc := "(Ljava/lang/String;)V" } : Jvm.MethodName) ∈ TW := tw_in 521 (by decide +kernel) (by decide +kernel)
set_option maxRecDepth 100000 in
theorem tw_522 : Jvm.Cond.code ({ cls := "java/lang/IllegalArgumentException", name := "<init>", desc := "(Ljava/lang/String;)V" } : Jvm.MethodName) prog_16_method_2_code (2 : Nat) (Option.none : Option Jvm.ClassFile.FieldType) ∈ TW := tw_in 522 rfl rfl
theorem tw_523 : Jvm.Cond.methodLink "java/lang/IllegalArgumentException" (7 : Nat) ({ cls := "java/lang/RuntimeException", name := "<init>", desc := "(Ljava/lang/String;)V" } : Jvm.MethodName) ∈ TW := tw_in 523 (by decide +kernel) (by decide +kernel)
theorem tw_524 : Jvm.Cond.instanceMethod ({ cls := "java/lang/RuntimeException", name := "<init>", desc := "(Ljava/lang/String;)V" } : Jvm.MethodName) ∈ TW := tw_in 524 (by decide +kernel) (by decide +kernel)
set_option maxRecDepth 100000 in
theorem tw_525 : Jvm.Cond.code ({ cls := "java/lang/RuntimeException", name := "<init>", desc := "(Ljava/lang/String;)V" } : Jvm.MethodName) prog_20_method_2_code (2 : Nat) (Option.none : Option Jvm.ClassFile.FieldType) ∈ TW := tw_in 525 rfl rfl
theorem tw_526 : Jvm.Cond.methodLink "java/lang/RuntimeException" (7 : Nat) ({ cls := "java/lang/Exception", name := "<init>", desc := "(Ljava/lang/String;)V" } : Jvm.MethodName) ∈ TW := tw_in 526 (by decide +kernel) (by decide +kernel)
theorem tw_527 : Jvm.Cond.instanceMethod ({ cls := "java/lang/Exception", name := "<init>", desc := "(Ljava/lang/String;)V" } : Jvm.MethodName) ∈ TW := tw_in 527 (by decide +kernel) (by decide +kernel)
set_option maxRecDepth 100000 in
theorem tw_528 : Jvm.Cond.code ({ cls := "java/lang/Exception", name := "<init>", desc := "(Ljava/lang/String;)V" } : Jvm.MethodName) prog_15_method_2_code (2 : Nat) (Option.none : Option Jvm.ClassFile.FieldType) ∈ TW := tw_in 528 rfl rfl
theorem tw_529 : Jvm.Cond.methodLink "java/lang/Exception" (7 : Nat) ({ cls := "java/lang/Throwable", name := "<init>", desc := "(Ljava/lang/String;)V" } : Jvm.MethodName) ∈ TW := tw_in 529 (by decide +kernel) (by decide +kernel)
theorem tw_530 : Jvm.Cond.instanceMethod ({ cls := "java/lang/Throwable", name := "<init>", desc := "(Ljava/lang/String;)V" } : Jvm.MethodName) ∈ TW := tw_in 530 (by decide +kernel) (by decide +kernel)
set_option maxRecDepth 100000 in
theorem tw_531 : Jvm.Cond.code ({ cls := "java/lang/Throwable", name := "<init>", desc := "(Ljava/lang/String;)V" } : Jvm.MethodName) prog_23_method_2_code (2 : Nat) (Option.none : Option Jvm.ClassFile.FieldType) ∈ TW := tw_in 531 rfl rfl
theorem tw_532 : Jvm.Cond.fieldLink "java/lang/Throwable" (198 : Nat) "java/lang/Throwable" "backtrace" "Ljava/lang/Object;" ∈ TW := tw_in 532 (by decide +kernel) (by decide +kernel)
theorem tw_533 : Jvm.Cond.fieldLink "java/lang/Throwable" (31 : Nat) "java/lang/Throwable" "detailMessage" "Ljava/lang/String;" ∈ TW := tw_in 533 (by decide +kernel) (by decide +kernel)
theorem tw_534 : Jvm.Cond.fieldLink "java/lang/Throwable" (7 : Nat) "java/lang/Throwable" "cause" "Ljava/lang/Throwable;" ∈ TW := tw_in 534 (by decide +kernel) (by decide +kernel)
theorem tw_535 : Jvm.Cond.fieldLink "java/lang/Throwable" (17 : Nat) "java/lang/Throwable" "stackTrace" "[Ljava/lang/StackTraceElement;" ∈ TW := tw_in 535 (by decide +kernel) (by decide +kernel)
theorem tw_536 : Jvm.Cond.fieldLink "java/lang/Throwable" (24 : Nat) "java/lang/Throwable" "suppressedExceptions" "Ljava/util/List;" ∈ TW := tw_in 536 (by decide +kernel) (by decide +kernel)
theorem tw_545 : Jvm.Cond.arrayClass Jvm.ClassFile.FieldType.byte ∈ TW := tw_in 545 (by decide +kernel) (by decide +kernel)
theorem tw_546 : Jvm.Cond.classLink "TokenHouse" (73 : Nat) "java/lang/IllegalStateException" ∈ TW := tw_in 546 (by decide +kernel) (by decide +kernel)
theorem tw_547 : Jvm.Cond.instantiable "java/lang/IllegalStateException" (6 : Nat) ∈ TW := tw_in 547 (by decide +kernel) (by decide +kernel)
theorem tw_549 : Jvm.Cond.selects "java/lang/IllegalStateException" ({ cls := "java/lang/Throwable", name := "fillInStackTrace", desc := "(I)Ljava/lang/Throwable;" } : Jvm.MethodName) ({ cls := "java/lang/Throwable", name := "fillInStackTrace", desc := "(I)Ljava/lang/Throwable;" } : Jvm.MethodName) ∈ TW := tw_in 549 (by decide +kernel) (by decide +kernel)
theorem tw_556 : Jvm.Cond.methodLink "TokenHouse" (77 : Nat) ({ cls := "java/lang/IllegalStateException", name := "<init>", desc := "(Ljava/lang/String;)V" } : Jvm.MethodName) ∈ TW := tw_in 556 (by decide +kernel) (by decide +kernel)
theorem tw_557 : Jvm.Cond.instanceMethod ({ cls := "java/lang/IllegalStateException", name := "<init>", desc := "(Ljava/lang/String;)V" } : Jvm.MethodName) ∈ TW := tw_in 557 (by decide +kernel) (by decide +kernel)
set_option maxRecDepth 100000 in
theorem tw_558 : Jvm.Cond.code ({ cls := "java/lang/IllegalStateException", name := "<init>", desc := "(Ljava/lang/String;)V" } : Jvm.MethodName) prog_17_method_2_code (2 : Nat) (Option.none : Option Jvm.ClassFile.FieldType) ∈ TW := tw_in 558 rfl rfl
theorem tw_559 : Jvm.Cond.methodLink "java/lang/IllegalStateException" (7 : Nat) ({ cls := "java/lang/RuntimeException", name := "<init>", desc := "(Ljava/lang/String;)V" } : Jvm.MethodName) ∈ TW := tw_in 559 (by decide +kernel) (by decide +kernel)
theorem tw_562 : Jvm.Cond.instantiable "TokenHouse$Node" (8 : Nat) ∈ TW := tw_in 562 (by decide +kernel) (by decide +kernel)
theorem tw_563 : Jvm.Cond.fieldLink "TokenHouse" (80 : Nat) "TokenHouse" "WANTED_X" "[I" ∈ TW := tw_in 563 (by decide +kernel) (by decide +kernel)
theorem tw_565 : Jvm.Cond.fieldLink "TokenHouse" (83 : Nat) "TokenHouse" "WANTED_Y" "[I" ∈ TW := tw_in 565 (by decide +kernel) (by decide +kernel)
theorem tw_567 : Jvm.Cond.methodLink "TokenHouse" (86 : Nat) ({ cls := "TokenHouse$Node", name := "<init>", desc := "(IIIIII)V" } : Jvm.MethodName) ∈ TW := tw_in 567 (by decide +kernel) (by decide +kernel)
theorem tw_568 : Jvm.Cond.instanceMethod ({ cls := "TokenHouse$Node", name := "<init>", desc := "(IIIIII)V" } : Jvm.MethodName) ∈ TW := tw_in 568 (by decide +kernel) (by decide +kernel)
set_option maxRecDepth 100000 in
theorem tw_569 : Jvm.Cond.code ({ cls := "TokenHouse$Node", name := "<init>", desc := "(IIIIII)V" } : Jvm.MethodName) prog_8_method_1_code (7 : Nat) (Option.none : Option Jvm.ClassFile.FieldType) ∈ TW := tw_in 569 rfl rfl
theorem tw_570 : Jvm.Cond.methodLink "TokenHouse$Node" (3 : Nat) ({ cls := "java/lang/Object", name := "<init>", desc := "()V" } : Jvm.MethodName) ∈ TW := tw_in 570 (by decide +kernel) (by decide +kernel)
theorem tw_571 : Jvm.Cond.classLink "TokenHouse$Node" (30 : Nat) "java/util/ArrayList" ∈ TW := tw_in 571 (by decide +kernel) (by decide +kernel)
theorem tw_572 : Jvm.Cond.methodLink "TokenHouse$Node" (32 : Nat) ({ cls := "java/util/ArrayList", name := "<init>", desc := "()V" } : Jvm.MethodName) ∈ TW := tw_in 572 (by decide +kernel) (by decide +kernel)
theorem tw_573 : Jvm.Cond.fieldLink "TokenHouse$Node" (9 : Nat) "TokenHouse$Node" "number" "I" ∈ TW := tw_in 573 (by decide +kernel) (by decide +kernel)
theorem tw_574 : Jvm.Cond.fieldLink "TokenHouse" (165 : Nat) "TokenHouse$Node" "number" "I" ∈ TW := tw_in 574 (by decide +kernel) (by decide +kernel)
theorem tw_575 : Jvm.Cond.fieldLink "TokenHouse$Node" (15 : Nat) "TokenHouse$Node" "op" "I" ∈ TW := tw_in 575 (by decide +kernel) (by decide +kernel)
theorem tw_576 : Jvm.Cond.fieldLink "TokenHouse" (286 : Nat) "TokenHouse$Node" "op" "I" ∈ TW := tw_in 576 (by decide +kernel) (by decide +kernel)
theorem tw_577 : Jvm.Cond.fieldLink "TokenHouse$Node" (18 : Nat) "TokenHouse$Node" "n" "I" ∈ TW := tw_in 577 (by decide +kernel) (by decide +kernel)
theorem tw_578 : Jvm.Cond.fieldLink "TokenHouse" (326 : Nat) "TokenHouse$Node" "n" "I" ∈ TW := tw_in 578 (by decide +kernel) (by decide +kernel)
theorem tw_579 : Jvm.Cond.fieldLink "TokenHouse$Node" (21 : Nat) "TokenHouse$Node" "ports" "I" ∈ TW := tw_in 579 (by decide +kernel) (by decide +kernel)
theorem tw_580 : Jvm.Cond.fieldLink "TokenHouse" (238 : Nat) "TokenHouse$Node" "ports" "I" ∈ TW := tw_in 580 (by decide +kernel) (by decide +kernel)
theorem tw_581 : Jvm.Cond.fieldLink "TokenHouse$Node" (24 : Nat) "TokenHouse$Node" "wantedX" "I" ∈ TW := tw_in 581 (by decide +kernel) (by decide +kernel)
theorem tw_582 : Jvm.Cond.fieldLink "TokenHouse" (266 : Nat) "TokenHouse$Node" "wantedX" "I" ∈ TW := tw_in 582 (by decide +kernel) (by decide +kernel)
theorem tw_583 : Jvm.Cond.fieldLink "TokenHouse$Node" (27 : Nat) "TokenHouse$Node" "wantedY" "I" ∈ TW := tw_in 583 (by decide +kernel) (by decide +kernel)
theorem tw_584 : Jvm.Cond.fieldLink "TokenHouse" (273 : Nat) "TokenHouse$Node" "wantedY" "I" ∈ TW := tw_in 584 (by decide +kernel) (by decide +kernel)
theorem tw_585 : Jvm.Cond.fieldLink "TokenHouse$Node" (33 : Nat) "TokenHouse$Node" "arcs" "Ljava/util/ArrayList;" ∈ TW := tw_in 585 (by decide +kernel) (by decide +kernel)
theorem tw_586 : Jvm.Cond.fieldLink "TokenHouse" (245 : Nat) "TokenHouse$Node" "arcs" "Ljava/util/ArrayList;" ∈ TW := tw_in 586 (by decide +kernel) (by decide +kernel)
theorem tw_587 : Jvm.Cond.fieldLink "TokenHouse$Node" (37 : Nat) "TokenHouse$Node" "frames" "Ljava/util/ArrayList;" ∈ TW := tw_in 587 (by decide +kernel) (by decide +kernel)
theorem tw_588 : Jvm.Cond.fieldLink "TokenHouse" (146 : Nat) "TokenHouse$Node" "frames" "Ljava/util/ArrayList;" ∈ TW := tw_in 588 (by decide +kernel) (by decide +kernel)
theorem tw_606 : Jvm.Cond.methodLink "TokenHouseLaw" (60 : Nat) ({ cls := "TokenHouseLaw", name := "run", desc := "(LTokenHouse;IJ[J)I" } : Jvm.MethodName) ∈ TW := tw_in 606 (by decide +kernel) (by decide +kernel)
theorem tw_607 : Jvm.Cond.static ({ cls := "TokenHouseLaw", name := "run", desc := "(LTokenHouse;IJ[J)I" } : Jvm.MethodName) ∈ TW := tw_in 607 (by decide +kernel) (by decide +kernel)
theorem tw_609 : Jvm.Cond.methodLink "TokenHouseLaw" (17 : Nat) ({ cls := "TokenHouse", name := "run", desc := "(IJ)I" } : Jvm.MethodName) ∈ TW := tw_in 609 (by decide +kernel) (by decide +kernel)
theorem tw_610 : Jvm.Cond.instanceMethod ({ cls := "TokenHouse", name := "run", desc := "(IJ)I" } : Jvm.MethodName) ∈ TW := tw_in 610 (by decide +kernel) (by decide +kernel)
theorem tw_611 : Jvm.Cond.selects "TokenHouse" ({ cls := "TokenHouse", name := "run", desc := "(IJ)I" } : Jvm.MethodName) ({ cls := "TokenHouse", name := "run", desc := "(IJ)I" } : Jvm.MethodName) ∈ TW := tw_in 611 (by decide +kernel) (by decide +kernel)
set_option maxRecDepth 100000 in
theorem tw_612 : Jvm.Cond.code ({ cls := "TokenHouse", name := "run", desc := "(IJ)I" } : Jvm.MethodName) prog_1_method_5_code (9 : Nat) (Option.some Jvm.ClassFile.FieldType.int) ∈ TW := tw_in 612 rfl rfl
theorem tw_615 : Jvm.Cond.constantLong "TokenHouse" (123 : Nat) (25214903917 : Int64) ∈ TW := tw_in 615 (by decide +kernel) (by decide +kernel)
theorem tw_616 : Jvm.Cond.constantLong "TokenHouse" (125 : Nat) (11 : Int64) ∈ TW := tw_in 616 (by decide +kernel) (by decide +kernel)
theorem tw_617 : Jvm.Cond.methodLink "TokenHouse" (130 : Nat) ({ cls := "java/util/ArrayList", name := "remove", desc := "(I)Ljava/lang/Object;" } : Jvm.MethodName) ∈ TW := tw_in 617 (by decide +kernel) (by decide +kernel)
theorem tw_618 : Jvm.Cond.methodLink "TokenHouse" (136 : Nat) ({ cls := "TokenHouse", name := "go", desc := "(LTokenHouse$Frame;)V" } : Jvm.MethodName) ∈ TW := tw_in 618 (by decide +kernel) (by decide +kernel)
theorem tw_620 : Jvm.Cond.instanceMethod ({ cls := "TokenHouse", name := "go", desc := "(LTokenHouse$Frame;)V" } : Jvm.MethodName) ∈ TW := tw_in 620 (by decide +kernel) (by decide +kernel)
set_option maxRecDepth 100000 in
theorem tw_621 : Jvm.Cond.code ({ cls := "TokenHouse", name := "go", desc := "(LTokenHouse$Frame;)V" } : Jvm.MethodName) prog_1_method_17_code (8 : Nat) (Option.none : Option Jvm.ClassFile.FieldType) ∈ TW := tw_in 621 rfl rfl
theorem tw_622 : Jvm.Cond.methodLink "TokenHouse" (263 : Nat) ({ cls := "TokenHouse$Frames", name := "takeBack", desc := "(LTokenHouse$Frame;)V" } : Jvm.MethodName) ∈ TW := tw_in 622 (by decide +kernel) (by decide +kernel)
theorem tw_623 : Jvm.Cond.methodLink "TokenHouse" (269 : Nat) ({ cls := "TokenHouse", name := "errorOf", desc := "(LTokenHouse$Value;I)I" } : Jvm.MethodName) ∈ TW := tw_in 623 (by decide +kernel) (by decide +kernel)
theorem tw_624 : Jvm.Cond.static ({ cls := "TokenHouse", name := "errorOf", desc := "(LTokenHouse$Value;I)I" } : Jvm.MethodName) ∈ TW := tw_in 624 (by decide +kernel) (by decide +kernel)
set_option maxRecDepth 100000 in
theorem tw_625 : Jvm.Cond.code ({ cls := "TokenHouse", name := "errorOf", desc := "(LTokenHouse$Value;I)I" } : Jvm.MethodName) prog_1_method_18_code (2 : Nat) (Option.some Jvm.ClassFile.FieldType.int) ∈ TW := tw_in 625 rfl rfl
theorem tw_626 : Jvm.Cond.methodLink "TokenHouse" (276 : Nat) ({ cls := "java/lang/Math", name := "min", desc := "(II)I" } : Jvm.MethodName) ∈ TW := tw_in 626 (by decide +kernel) (by decide +kernel)
theorem tw_627 : Jvm.Cond.methodLink "TokenHouse" (282 : Nat) ({ cls := "TokenHouse", name := "give", desc := "(LTokenHouse$Node;LTokenHouse$Value;I)V" } : Jvm.MethodName) ∈ TW := tw_in 627 (by decide +kernel) (by decide +kernel)
theorem tw_629 : Jvm.Cond.instanceMethod ({ cls := "TokenHouse", name := "give", desc := "(LTokenHouse$Node;LTokenHouse$Value;I)V" } : Jvm.MethodName) ∈ TW := tw_in 629 (by decide +kernel) (by decide +kernel)
set_option maxRecDepth 100000 in
theorem tw_630 : Jvm.Cond.code ({ cls := "TokenHouse", name := "give", desc := "(LTokenHouse$Node;LTokenHouse$Value;I)V" } : Jvm.MethodName) prog_1_method_15_code (6 : Nat) (Option.none : Option Jvm.ClassFile.FieldType) ∈ TW := tw_in 630 rfl rfl
theorem tw_631 : Jvm.Cond.classLink "TokenHouse" (248 : Nat) "TokenHouse$Arc" ∈ TW := tw_in 631 (by decide +kernel) (by decide +kernel)
theorem tw_632 : Jvm.Cond.methodLink "TokenHouse" (289 : Nat) ({ cls := "TokenHouse", name := "choose", desc := "(LTokenHouse$Node;ILTokenHouse$Value;LTokenHouse$Value;)V" } : Jvm.MethodName) ∈ TW := tw_in 632 (by decide +kernel) (by decide +kernel)
theorem tw_634 : Jvm.Cond.instanceMethod ({ cls := "TokenHouse", name := "choose", desc := "(LTokenHouse$Node;ILTokenHouse$Value;LTokenHouse$Value;)V" } : Jvm.MethodName) ∈ TW := tw_in 634 (by decide +kernel) (by decide +kernel)
set_option maxRecDepth 100000 in
theorem tw_635 : Jvm.Cond.code ({ cls := "TokenHouse", name := "choose", desc := "(LTokenHouse$Node;ILTokenHouse$Value;LTokenHouse$Value;)V" } : Jvm.MethodName) prog_1_method_21_code (6 : Nat) (Option.none : Option Jvm.ClassFile.FieldType) ∈ TW := tw_in 635 rfl rfl
theorem tw_636 : Jvm.Cond.methodLink "TokenHouse" (329 : Nat) ({ cls := "TokenHouse", name := "giveOnSide", desc := "(LTokenHouse$Node;ILTokenHouse$Value;I)V" } : Jvm.MethodName) ∈ TW := tw_in 636 (by decide +kernel) (by decide +kernel)
theorem tw_638 : Jvm.Cond.instanceMethod ({ cls := "TokenHouse", name := "giveOnSide", desc := "(LTokenHouse$Node;ILTokenHouse$Value;I)V" } : Jvm.MethodName) ∈ TW := tw_in 638 (by decide +kernel) (by decide +kernel)
set_option maxRecDepth 100000 in
theorem tw_639 : Jvm.Cond.code ({ cls := "TokenHouse", name := "giveOnSide", desc := "(LTokenHouse$Node;ILTokenHouse$Value;I)V" } : Jvm.MethodName) prog_1_method_16_code (7 : Nat) (Option.none : Option Jvm.ClassFile.FieldType) ∈ TW := tw_in 639 rfl rfl
theorem tw_640 : Jvm.Cond.constantLong "TokenHouse" (332 : Nat) (4 : Int64) ∈ TW := tw_in 640 (by decide +kernel) (by decide +kernel)
theorem tw_641 : Jvm.Cond.methodLink "TokenHouse" (293 : Nat) ({ cls := "TokenHouse", name := "move", desc := "(LTokenHouse$Node;ILTokenHouse$Value;)V" } : Jvm.MethodName) ∈ TW := tw_in 641 (by decide +kernel) (by decide +kernel)
theorem tw_643 : Jvm.Cond.instanceMethod ({ cls := "TokenHouse", name := "move", desc := "(LTokenHouse$Node;ILTokenHouse$Value;)V" } : Jvm.MethodName) ∈ TW := tw_in 643 (by decide +kernel) (by decide +kernel)
set_option maxRecDepth 100000 in
theorem tw_644 : Jvm.Cond.code ({ cls := "TokenHouse", name := "move", desc := "(LTokenHouse$Node;ILTokenHouse$Value;)V" } : Jvm.MethodName) prog_1_method_22_code (5 : Nat) (Option.none : Option Jvm.ClassFile.FieldType) ∈ TW := tw_in 644 rfl rfl
theorem tw_645 : Jvm.Cond.methodLink "TokenHouse" (334 : Nat) ({ cls := "TokenHouse", name := "contextBehind", desc := "(LTokenHouse$Node;I)I" } : Jvm.MethodName) ∈ TW := tw_in 645 (by decide +kernel) (by decide +kernel)
theorem tw_647 : Jvm.Cond.instanceMethod ({ cls := "TokenHouse", name := "contextBehind", desc := "(LTokenHouse$Node;I)I" } : Jvm.MethodName) ∈ TW := tw_in 647 (by decide +kernel) (by decide +kernel)
set_option maxRecDepth 100000 in
theorem tw_648 : Jvm.Cond.code ({ cls := "TokenHouse", name := "contextBehind", desc := "(LTokenHouse$Node;I)I" } : Jvm.MethodName) prog_1_method_23_code (3 : Nat) (Option.some Jvm.ClassFile.FieldType.int) ∈ TW := tw_in 648 rfl rfl
theorem tw_649 : Jvm.Cond.methodLink "TokenHouse" (338 : Nat) ({ cls := "TokenHouse$Contexts", name := "numberOf", desc := "(III)I" } : Jvm.MethodName) ∈ TW := tw_in 649 (by decide +kernel) (by decide +kernel)
theorem tw_650 : Jvm.Cond.instanceMethod ({ cls := "TokenHouse$Contexts", name := "numberOf", desc := "(III)I" } : Jvm.MethodName) ∈ TW := tw_in 650 (by decide +kernel) (by decide +kernel)
theorem tw_651 : Jvm.Cond.selects "TokenHouse$Contexts" ({ cls := "TokenHouse$Contexts", name := "numberOf", desc := "(III)I" } : Jvm.MethodName) ({ cls := "TokenHouse$Contexts", name := "numberOf", desc := "(III)I" } : Jvm.MethodName) ∈ TW := tw_in 651 (by decide +kernel) (by decide +kernel)
set_option maxRecDepth 100000 in
theorem tw_652 : Jvm.Cond.code ({ cls := "TokenHouse$Contexts", name := "numberOf", desc := "(III)I" } : Jvm.MethodName) prog_5_method_3_code (5 : Nat) (Option.some Jvm.ClassFile.FieldType.int) ∈ TW := tw_in 652 rfl rfl
theorem tw_653 : Jvm.Cond.methodLink "TokenHouse" (342 : Nat) ({ cls := "TokenHouse$Contexts", name := "nextRoundOf", desc := "(I)I" } : Jvm.MethodName) ∈ TW := tw_in 653 (by decide +kernel) (by decide +kernel)
theorem tw_654 : Jvm.Cond.instanceMethod ({ cls := "TokenHouse$Contexts", name := "nextRoundOf", desc := "(I)I" } : Jvm.MethodName) ∈ TW := tw_in 654 (by decide +kernel) (by decide +kernel)
theorem tw_655 : Jvm.Cond.selects "TokenHouse$Contexts" ({ cls := "TokenHouse$Contexts", name := "nextRoundOf", desc := "(I)I" } : Jvm.MethodName) ({ cls := "TokenHouse$Contexts", name := "nextRoundOf", desc := "(I)I" } : Jvm.MethodName) ∈ TW := tw_in 655 (by decide +kernel) (by decide +kernel)
set_option maxRecDepth 100000 in
theorem tw_656 : Jvm.Cond.code ({ cls := "TokenHouse$Contexts", name := "nextRoundOf", desc := "(I)I" } : Jvm.MethodName) prog_5_method_4_code (2 : Nat) (Option.some Jvm.ClassFile.FieldType.int) ∈ TW := tw_in 656 rfl rfl
theorem tw_657 : Jvm.Cond.methodLink "TokenHouse$Contexts" (25 : Nat) ({ cls := "TokenHouse$Contexts", name := "has", desc := "(I)Z" } : Jvm.MethodName) ∈ TW := tw_in 657 (by decide +kernel) (by decide +kernel)
theorem tw_658 : Jvm.Cond.methodLink "TokenHouse$Contexts" (29 : Nat) ({ cls := "TokenHouse$Contexts", name := "numberOf", desc := "(III)I" } : Jvm.MethodName) ∈ TW := tw_in 658 (by decide +kernel) (by decide +kernel)
theorem tw_659 : Jvm.Cond.methodLink "TokenHouse" (346 : Nat) ({ cls := "TokenHouse$Contexts", name := "firstRoundOf", desc := "(I)I" } : Jvm.MethodName) ∈ TW := tw_in 659 (by decide +kernel) (by decide +kernel)
theorem tw_660 : Jvm.Cond.instanceMethod ({ cls := "TokenHouse$Contexts", name := "firstRoundOf", desc := "(I)I" } : Jvm.MethodName) ∈ TW := tw_in 660 (by decide +kernel) (by decide +kernel)
theorem tw_661 : Jvm.Cond.selects "TokenHouse$Contexts" ({ cls := "TokenHouse$Contexts", name := "firstRoundOf", desc := "(I)I" } : Jvm.MethodName) ({ cls := "TokenHouse$Contexts", name := "firstRoundOf", desc := "(I)I" } : Jvm.MethodName) ∈ TW := tw_in 661 (by decide +kernel) (by decide +kernel)
set_option maxRecDepth 100000 in
theorem tw_662 : Jvm.Cond.code ({ cls := "TokenHouse$Contexts", name := "firstRoundOf", desc := "(I)I" } : Jvm.MethodName) prog_5_method_5_code (2 : Nat) (Option.some Jvm.ClassFile.FieldType.int) ∈ TW := tw_in 662 rfl rfl
theorem tw_663 : Jvm.Cond.methodLink "TokenHouse" (349 : Nat) ({ cls := "TokenHouse$Contexts", name := "outsideOf", desc := "(I)I" } : Jvm.MethodName) ∈ TW := tw_in 663 (by decide +kernel) (by decide +kernel)
theorem tw_664 : Jvm.Cond.instanceMethod ({ cls := "TokenHouse$Contexts", name := "outsideOf", desc := "(I)I" } : Jvm.MethodName) ∈ TW := tw_in 664 (by decide +kernel) (by decide +kernel)
theorem tw_665 : Jvm.Cond.selects "TokenHouse$Contexts" ({ cls := "TokenHouse$Contexts", name := "outsideOf", desc := "(I)I" } : Jvm.MethodName) ({ cls := "TokenHouse$Contexts", name := "outsideOf", desc := "(I)I" } : Jvm.MethodName) ∈ TW := tw_in 665 (by decide +kernel) (by decide +kernel)
set_option maxRecDepth 100000 in
theorem tw_666 : Jvm.Cond.code ({ cls := "TokenHouse$Contexts", name := "outsideOf", desc := "(I)I" } : Jvm.MethodName) prog_5_method_6_code (2 : Nat) (Option.some Jvm.ClassFile.FieldType.int) ∈ TW := tw_in 666 rfl rfl
theorem tw_667 : Jvm.Cond.methodLink "TokenHouse" (297 : Nat) ({ cls := "TokenHouse", name := "enterCall", desc := "(LTokenHouse$Node;ILTokenHouse$Value;)V" } : Jvm.MethodName) ∈ TW := tw_in 667 (by decide +kernel) (by decide +kernel)
theorem tw_669 : Jvm.Cond.instanceMethod ({ cls := "TokenHouse", name := "enterCall", desc := "(LTokenHouse$Node;ILTokenHouse$Value;)V" } : Jvm.MethodName) ∈ TW := tw_in 669 (by decide +kernel) (by decide +kernel)
set_option maxRecDepth 100000 in
theorem tw_670 : Jvm.Cond.code ({ cls := "TokenHouse", name := "enterCall", desc := "(LTokenHouse$Node;ILTokenHouse$Value;)V" } : Jvm.MethodName) prog_1_method_24_code (6 : Nat) (Option.none : Option Jvm.ClassFile.FieldType) ∈ TW := tw_in 670 rfl rfl
theorem tw_671 : Jvm.Cond.methodLink "TokenHouse" (300 : Nat) ({ cls := "TokenHouse", name := "leaveCall", desc := "(ILTokenHouse$Value;)V" } : Jvm.MethodName) ∈ TW := tw_in 671 (by decide +kernel) (by decide +kernel)
theorem tw_673 : Jvm.Cond.instanceMethod ({ cls := "TokenHouse", name := "leaveCall", desc := "(ILTokenHouse$Value;)V" } : Jvm.MethodName) ∈ TW := tw_in 673 (by decide +kernel) (by decide +kernel)
set_option maxRecDepth 100000 in
theorem tw_674 : Jvm.Cond.code ({ cls := "TokenHouse", name := "leaveCall", desc := "(ILTokenHouse$Value;)V" } : Jvm.MethodName) prog_1_method_25_code (4 : Nat) (Option.none : Option Jvm.ClassFile.FieldType) ∈ TW := tw_in 674 rfl rfl
theorem tw_675 : Jvm.Cond.methodLink "TokenHouse" (352 : Nat) ({ cls := "TokenHouse$Contexts", name := "siteOf", desc := "(I)I" } : Jvm.MethodName) ∈ TW := tw_in 675 (by decide +kernel) (by decide +kernel)
theorem tw_676 : Jvm.Cond.instanceMethod ({ cls := "TokenHouse$Contexts", name := "siteOf", desc := "(I)I" } : Jvm.MethodName) ∈ TW := tw_in 676 (by decide +kernel) (by decide +kernel)
theorem tw_677 : Jvm.Cond.selects "TokenHouse$Contexts" ({ cls := "TokenHouse$Contexts", name := "siteOf", desc := "(I)I" } : Jvm.MethodName) ({ cls := "TokenHouse$Contexts", name := "siteOf", desc := "(I)I" } : Jvm.MethodName) ∈ TW := tw_in 677 (by decide +kernel) (by decide +kernel)
set_option maxRecDepth 100000 in
theorem tw_678 : Jvm.Cond.code ({ cls := "TokenHouse$Contexts", name := "siteOf", desc := "(I)I" } : Jvm.MethodName) prog_5_method_7_code (2 : Nat) (Option.some Jvm.ClassFile.FieldType.int) ∈ TW := tw_in 678 rfl rfl
theorem tw_679 : Jvm.Cond.methodLink "TokenHouse" (303 : Nat) ({ cls := "TokenHouse", name := "makeArray", desc := "(LTokenHouse$Node;IJ)V" } : Jvm.MethodName) ∈ TW := tw_in 679 (by decide +kernel) (by decide +kernel)
theorem tw_681 : Jvm.Cond.instanceMethod ({ cls := "TokenHouse", name := "makeArray", desc := "(LTokenHouse$Node;IJ)V" } : Jvm.MethodName) ∈ TW := tw_in 681 (by decide +kernel) (by decide +kernel)
set_option maxRecDepth 100000 in
theorem tw_682 : Jvm.Cond.code ({ cls := "TokenHouse", name := "makeArray", desc := "(LTokenHouse$Node;IJ)V" } : Jvm.MethodName) prog_1_method_26_code (6 : Nat) (Option.none : Option Jvm.ClassFile.FieldType) ∈ TW := tw_in 682 rfl rfl
theorem tw_683 : Jvm.Cond.constantLong "TokenHouse" (355 : Nat) (8 : Int64) ∈ TW := tw_in 683 (by decide +kernel) (by decide +kernel)
theorem tw_684 : Jvm.Cond.constantLong "TokenHouse" (357 : Nat) (2 : Int64) ∈ TW := tw_in 684 (by decide +kernel) (by decide +kernel)
theorem tw_685 : Jvm.Cond.methodLink "TokenHouse" (359 : Nat) ({ cls := "TokenHouse$Cells", name := "makeArray", desc := "(I)I" } : Jvm.MethodName) ∈ TW := tw_in 685 (by decide +kernel) (by decide +kernel)
theorem tw_686 : Jvm.Cond.instanceMethod ({ cls := "TokenHouse$Cells", name := "makeArray", desc := "(I)I" } : Jvm.MethodName) ∈ TW := tw_in 686 (by decide +kernel) (by decide +kernel)
theorem tw_687 : Jvm.Cond.selects "TokenHouse$Cells" ({ cls := "TokenHouse$Cells", name := "makeArray", desc := "(I)I" } : Jvm.MethodName) ({ cls := "TokenHouse$Cells", name := "makeArray", desc := "(I)I" } : Jvm.MethodName) ∈ TW := tw_in 687 (by decide +kernel) (by decide +kernel)
set_option maxRecDepth 100000 in
theorem tw_688 : Jvm.Cond.code ({ cls := "TokenHouse$Cells", name := "makeArray", desc := "(I)I" } : Jvm.MethodName) prog_4_method_2_code (5 : Nat) (Option.some Jvm.ClassFile.FieldType.int) ∈ TW := tw_in 688 rfl rfl
theorem tw_689 : Jvm.Cond.instantiable "TokenHouse$Cell" (2 : Nat) ∈ TW := tw_in 689 (by decide +kernel) (by decide +kernel)
theorem tw_690 : Jvm.Cond.methodLink "TokenHouse$Cells" (29 : Nat) ({ cls := "TokenHouse$Cell", name := "<init>", desc := "(LTokenHouse$Value;)V" } : Jvm.MethodName) ∈ TW := tw_in 690 (by decide +kernel) (by decide +kernel)
theorem tw_691 : Jvm.Cond.instanceMethod ({ cls := "TokenHouse$Cell", name := "<init>", desc := "(LTokenHouse$Value;)V" } : Jvm.MethodName) ∈ TW := tw_in 691 (by decide +kernel) (by decide +kernel)
set_option maxRecDepth 100000 in
theorem tw_692 : Jvm.Cond.code ({ cls := "TokenHouse$Cell", name := "<init>", desc := "(LTokenHouse$Value;)V" } : Jvm.MethodName) prog_3_method_1_code (2 : Nat) (Option.none : Option Jvm.ClassFile.FieldType) ∈ TW := tw_in 692 rfl rfl
theorem tw_693 : Jvm.Cond.methodLink "TokenHouse$Cell" (3 : Nat) ({ cls := "java/lang/Object", name := "<init>", desc := "()V" } : Jvm.MethodName) ∈ TW := tw_in 693 (by decide +kernel) (by decide +kernel)
theorem tw_694 : Jvm.Cond.classLink "TokenHouse$Cell" (9 : Nat) "java/util/ArrayList" ∈ TW := tw_in 694 (by decide +kernel) (by decide +kernel)
theorem tw_695 : Jvm.Cond.methodLink "TokenHouse$Cell" (11 : Nat) ({ cls := "java/util/ArrayList", name := "<init>", desc := "()V" } : Jvm.MethodName) ∈ TW := tw_in 695 (by decide +kernel) (by decide +kernel)
theorem tw_696 : Jvm.Cond.fieldLink "TokenHouse$Cell" (12 : Nat) "TokenHouse$Cell" "kept" "Ljava/util/ArrayList;" ∈ TW := tw_in 696 (by decide +kernel) (by decide +kernel)
theorem tw_697 : Jvm.Cond.fieldLink "TokenHouse$Cells" (35 : Nat) "TokenHouse$Cell" "kept" "Ljava/util/ArrayList;" ∈ TW := tw_in 697 (by decide +kernel) (by decide +kernel)
theorem tw_698 : Jvm.Cond.fieldLink "TokenHouse" (211 : Nat) "TokenHouse$Cell" "kept" "Ljava/util/ArrayList;" ∈ TW := tw_in 698 (by decide +kernel) (by decide +kernel)
theorem tw_699 : Jvm.Cond.fieldLink "TokenHouse$Cell" (18 : Nat) "TokenHouse$Cell" "value" "LTokenHouse$Value;" ∈ TW := tw_in 699 (by decide +kernel) (by decide +kernel)
theorem tw_700 : Jvm.Cond.fieldLink "TokenHouse$Cells" (32 : Nat) "TokenHouse$Cell" "value" "LTokenHouse$Value;" ∈ TW := tw_in 700 (by decide +kernel) (by decide +kernel)
theorem tw_701 : Jvm.Cond.fieldLink "TokenHouse" (208 : Nat) "TokenHouse$Cell" "value" "LTokenHouse$Value;" ∈ TW := tw_in 701 (by decide +kernel) (by decide +kernel)
theorem tw_707 : Jvm.Cond.methodLink "TokenHouse" (202 : Nat) ({ cls := "TokenHouse$Cells", name := "at", desc := "(JJ)LTokenHouse$Cell;" } : Jvm.MethodName) ∈ TW := tw_in 707 (by decide +kernel) (by decide +kernel)
theorem tw_708 : Jvm.Cond.instanceMethod ({ cls := "TokenHouse$Cells", name := "at", desc := "(JJ)LTokenHouse$Cell;" } : Jvm.MethodName) ∈ TW := tw_in 708 (by decide +kernel) (by decide +kernel)
theorem tw_709 : Jvm.Cond.selects "TokenHouse$Cells" ({ cls := "TokenHouse$Cells", name := "at", desc := "(JJ)LTokenHouse$Cell;" } : Jvm.MethodName) ({ cls := "TokenHouse$Cells", name := "at", desc := "(JJ)LTokenHouse$Cell;" } : Jvm.MethodName) ∈ TW := tw_in 709 (by decide +kernel) (by decide +kernel)
set_option maxRecDepth 100000 in
theorem tw_710 : Jvm.Cond.code ({ cls := "TokenHouse$Cells", name := "at", desc := "(JJ)LTokenHouse$Cell;" } : Jvm.MethodName) prog_4_method_3_code (6 : Nat) (Option.some (Jvm.ClassFile.FieldType.object "TokenHouse$Cell")) ∈ TW := tw_in 710 rfl rfl
theorem tw_711 : Jvm.Cond.methodLink "TokenHouse" (307 : Nat) ({ cls := "TokenHouse", name := "fetch", desc := "(LTokenHouse$Node;ILTokenHouse$Cell;)V" } : Jvm.MethodName) ∈ TW := tw_in 711 (by decide +kernel) (by decide +kernel)
theorem tw_713 : Jvm.Cond.instanceMethod ({ cls := "TokenHouse", name := "fetch", desc := "(LTokenHouse$Node;ILTokenHouse$Cell;)V" } : Jvm.MethodName) ∈ TW := tw_in 713 (by decide +kernel) (by decide +kernel)
set_option maxRecDepth 100000 in
theorem tw_714 : Jvm.Cond.code ({ cls := "TokenHouse", name := "fetch", desc := "(LTokenHouse$Node;ILTokenHouse$Cell;)V" } : Jvm.MethodName) prog_1_method_27_code (4 : Nat) (Option.none : Option Jvm.ClassFile.FieldType) ∈ TW := tw_in 714 rfl rfl
theorem tw_715 : Jvm.Cond.constantLong "TokenHouse" (361 : Nat) (3 : Int64) ∈ TW := tw_in 715 (by decide +kernel) (by decide +kernel)
theorem tw_716 : Jvm.Cond.methodLink "TokenHouse" (363 : Nat) ({ cls := "TokenHouse$Cell", name := "isWritten", desc := "()Z" } : Jvm.MethodName) ∈ TW := tw_in 716 (by decide +kernel) (by decide +kernel)
theorem tw_717 : Jvm.Cond.instanceMethod ({ cls := "TokenHouse$Cell", name := "isWritten", desc := "()Z" } : Jvm.MethodName) ∈ TW := tw_in 717 (by decide +kernel) (by decide +kernel)
theorem tw_718 : Jvm.Cond.selects "TokenHouse$Cell" ({ cls := "TokenHouse$Cell", name := "isWritten", desc := "()Z" } : Jvm.MethodName) ({ cls := "TokenHouse$Cell", name := "isWritten", desc := "()Z" } : Jvm.MethodName) ∈ TW := tw_in 718 (by decide +kernel) (by decide +kernel)
set_option maxRecDepth 100000 in
theorem tw_719 : Jvm.Cond.code ({ cls := "TokenHouse$Cell", name := "isWritten", desc := "()Z" } : Jvm.MethodName) prog_3_method_2_code (1 : Nat) (Option.some Jvm.ClassFile.FieldType.boolean) ∈ TW := tw_in 719 rfl rfl
theorem tw_720 : Jvm.Cond.methodLink "TokenHouse" (311 : Nat) ({ cls := "TokenHouse", name := "store", desc := "(LTokenHouse$Node;ILTokenHouse$Cell;LTokenHouse$Value;)V" } : Jvm.MethodName) ∈ TW := tw_in 720 (by decide +kernel) (by decide +kernel)
theorem tw_722 : Jvm.Cond.instanceMethod ({ cls := "TokenHouse", name := "store", desc := "(LTokenHouse$Node;ILTokenHouse$Cell;LTokenHouse$Value;)V" } : Jvm.MethodName) ∈ TW := tw_in 722 (by decide +kernel) (by decide +kernel)
set_option maxRecDepth 100000 in
theorem tw_723 : Jvm.Cond.code ({ cls := "TokenHouse", name := "store", desc := "(LTokenHouse$Node;ILTokenHouse$Cell;LTokenHouse$Value;)V" } : Jvm.MethodName) prog_1_method_28_code (9 : Nat) (Option.none : Option Jvm.ClassFile.FieldType) ∈ TW := tw_in 723 rfl rfl
theorem tw_724 : Jvm.Cond.classLink "TokenHouse" (176 : Nat) "TokenHouse$Result" ∈ TW := tw_in 724 (by decide +kernel) (by decide +kernel)
theorem tw_725 : Jvm.Cond.instantiable "TokenHouse$Result" (2 : Nat) ∈ TW := tw_in 725 (by decide +kernel) (by decide +kernel)
theorem tw_726 : Jvm.Cond.methodLink "TokenHouse" (315 : Nat) ({ cls := "TokenHouse$Result", name := "<init>", desc := "(LTokenHouse$Value;I)V" } : Jvm.MethodName) ∈ TW := tw_in 726 (by decide +kernel) (by decide +kernel)
theorem tw_727 : Jvm.Cond.instanceMethod ({ cls := "TokenHouse$Result", name := "<init>", desc := "(LTokenHouse$Value;I)V" } : Jvm.MethodName) ∈ TW := tw_in 727 (by decide +kernel) (by decide +kernel)
set_option maxRecDepth 100000 in
theorem tw_728 : Jvm.Cond.code ({ cls := "TokenHouse$Result", name := "<init>", desc := "(LTokenHouse$Value;I)V" } : Jvm.MethodName) prog_9_method_1_code (3 : Nat) (Option.none : Option Jvm.ClassFile.FieldType) ∈ TW := tw_in 728 rfl rfl
theorem tw_729 : Jvm.Cond.methodLink "TokenHouse$Result" (1 : Nat) ({ cls := "java/lang/Object", name := "<init>", desc := "()V" } : Jvm.MethodName) ∈ TW := tw_in 729 (by decide +kernel) (by decide +kernel)
theorem tw_730 : Jvm.Cond.fieldLink "TokenHouse$Result" (7 : Nat) "TokenHouse$Result" "value" "LTokenHouse$Value;" ∈ TW := tw_in 730 (by decide +kernel) (by decide +kernel)
theorem tw_731 : Jvm.Cond.fieldLink "TokenHouse" (178 : Nat) "TokenHouse$Result" "value" "LTokenHouse$Value;" ∈ TW := tw_in 731 (by decide +kernel) (by decide +kernel)
theorem tw_732 : Jvm.Cond.fieldLink "TokenHouse$Result" (13 : Nat) "TokenHouse$Result" "context" "I" ∈ TW := tw_in 732 (by decide +kernel) (by decide +kernel)
theorem tw_733 : Jvm.Cond.fieldLink "TokenHouse" (187 : Nat) "TokenHouse$Result" "context" "I" ∈ TW := tw_in 733 (by decide +kernel) (by decide +kernel)
theorem tw_739 : Jvm.Cond.methodLink "TokenHouse" (318 : Nat) ({ cls := "TokenHouse", name := "reckoned", desc := "(LTokenHouse$Node;LTokenHouse$Value;LTokenHouse$Value;)LTokenHouse$Value;" } : Jvm.MethodName) ∈ TW := tw_in 739 (by decide +kernel) (by decide +kernel)
theorem tw_740 : Jvm.Cond.static ({ cls := "TokenHouse", name := "reckoned", desc := "(LTokenHouse$Node;LTokenHouse$Value;LTokenHouse$Value;)LTokenHouse$Value;" } : Jvm.MethodName) ∈ TW := tw_in 740 (by decide +kernel) (by decide +kernel)
set_option maxRecDepth 100000 in
theorem tw_741 : Jvm.Cond.code ({ cls := "TokenHouse", name := "reckoned", desc := "(LTokenHouse$Node;LTokenHouse$Value;LTokenHouse$Value;)LTokenHouse$Value;" } : Jvm.MethodName) prog_1_method_19_code (3 : Nat) (Option.some (Jvm.ClassFile.FieldType.object "TokenHouse$Value")) ∈ TW := tw_in 741 rfl rfl
theorem tw_742 : Jvm.Cond.methodLink "TokenHouse" (322 : Nat) ({ cls := "TokenHouse", name := "quotient", desc := "(JJ)LTokenHouse$Value;" } : Jvm.MethodName) ∈ TW := tw_in 742 (by decide +kernel) (by decide +kernel)
theorem tw_743 : Jvm.Cond.static ({ cls := "TokenHouse", name := "quotient", desc := "(JJ)LTokenHouse$Value;" } : Jvm.MethodName) ∈ TW := tw_in 743 (by decide +kernel) (by decide +kernel)
set_option maxRecDepth 100000 in
theorem tw_744 : Jvm.Cond.code ({ cls := "TokenHouse", name := "quotient", desc := "(JJ)LTokenHouse$Value;" } : Jvm.MethodName) prog_1_method_20_code (4 : Nat) (Option.some (Jvm.ClassFile.FieldType.object "TokenHouse$Value")) ∈ TW := tw_in 744 rfl rfl
theorem tw_745 : Jvm.Cond.methodLink "TokenHouseLaw" (73 : Nat) ({ cls := "TokenHouseLaw", name := "result", desc := "(LTokenHouse;II[J)I" } : Jvm.MethodName) ∈ TW := tw_in 745 (by decide +kernel) (by decide +kernel)
theorem tw_746 : Jvm.Cond.static ({ cls := "TokenHouseLaw", name := "result", desc := "(LTokenHouse;II[J)I" } : Jvm.MethodName) ∈ TW := tw_in 746 (by decide +kernel) (by decide +kernel)
theorem tw_748 : Jvm.Cond.classLink "TokenHouseLaw" (25 : Nat) "java/util/NoSuchElementException" ∈ TW := tw_in 748 (by decide +kernel) (by decide +kernel)
theorem tw_749 : Jvm.Cond.methodLink "TokenHouseLaw" (21 : Nat) ({ cls := "TokenHouse", name := "result", desc := "(II)J" } : Jvm.MethodName) ∈ TW := tw_in 749 (by decide +kernel) (by decide +kernel)
theorem tw_750 : Jvm.Cond.instanceMethod ({ cls := "TokenHouse", name := "result", desc := "(II)J" } : Jvm.MethodName) ∈ TW := tw_in 750 (by decide +kernel) (by decide +kernel)
theorem tw_751 : Jvm.Cond.selects "TokenHouse" ({ cls := "TokenHouse", name := "result", desc := "(II)J" } : Jvm.MethodName) ({ cls := "TokenHouse", name := "result", desc := "(II)J" } : Jvm.MethodName) ∈ TW := tw_in 751 (by decide +kernel) (by decide +kernel)
set_option maxRecDepth 100000 in
theorem tw_752 : Jvm.Cond.code ({ cls := "TokenHouse", name := "result", desc := "(II)J" } : Jvm.MethodName) prog_1_method_8_code (4 : Nat) (Option.some Jvm.ClassFile.FieldType.long) ∈ TW := tw_in 752 rfl rfl
theorem tw_753 : Jvm.Cond.classLink "TokenHouse" (171 : Nat) "java/util/NoSuchElementException" ∈ TW := tw_in 753 (by decide +kernel) (by decide +kernel)
theorem tw_754 : Jvm.Cond.instantiable "java/util/NoSuchElementException" (6 : Nat) ∈ TW := tw_in 754 (by decide +kernel) (by decide +kernel)
theorem tw_756 : Jvm.Cond.selects "java/util/NoSuchElementException" ({ cls := "java/lang/Throwable", name := "fillInStackTrace", desc := "(I)Ljava/lang/Throwable;" } : Jvm.MethodName) ({ cls := "java/lang/Throwable", name := "fillInStackTrace", desc := "(I)Ljava/lang/Throwable;" } : Jvm.MethodName) ∈ TW := tw_in 756 (by decide +kernel) (by decide +kernel)
theorem tw_763 : Jvm.Cond.methodLink "TokenHouse" (175 : Nat) ({ cls := "java/util/NoSuchElementException", name := "<init>", desc := "(Ljava/lang/String;)V" } : Jvm.MethodName) ∈ TW := tw_in 763 (by decide +kernel) (by decide +kernel)
theorem tw_764 : Jvm.Cond.instanceMethod ({ cls := "java/util/NoSuchElementException", name := "<init>", desc := "(Ljava/lang/String;)V" } : Jvm.MethodName) ∈ TW := tw_in 764 (by decide +kernel) (by decide +kernel)
set_option maxRecDepth 100000 in
theorem tw_765 : Jvm.Cond.code ({ cls := "java/util/NoSuchElementException", name := "<init>", desc := "(Ljava/lang/String;)V" } : Jvm.MethodName) prog_30_method_4_code (2 : Nat) (Option.none : Option Jvm.ClassFile.FieldType) ∈ TW := tw_in 765 rfl rfl
theorem tw_766 : Jvm.Cond.methodLink "java/util/NoSuchElementException" (13 : Nat) ({ cls := "java/lang/RuntimeException", name := "<init>", desc := "(Ljava/lang/String;)V" } : Jvm.MethodName) ∈ TW := tw_in 766 (by decide +kernel) (by decide +kernel)
theorem tw_769 : Jvm.Cond.methodLink "TokenHouseLaw" (76 : Nat) ({ cls := "TokenHouseLaw", name := "context", desc := "(LTokenHouse;II[J)I" } : Jvm.MethodName) ∈ TW := tw_in 769 (by decide +kernel) (by decide +kernel)
theorem tw_770 : Jvm.Cond.static ({ cls := "TokenHouseLaw", name := "context", desc := "(LTokenHouse;II[J)I" } : Jvm.MethodName) ∈ TW := tw_in 770 (by decide +kernel) (by decide +kernel)
theorem tw_772 : Jvm.Cond.methodLink "TokenHouseLaw" (27 : Nat) ({ cls := "TokenHouse", name := "context", desc := "(II)I" } : Jvm.MethodName) ∈ TW := tw_in 772 (by decide +kernel) (by decide +kernel)
theorem tw_773 : Jvm.Cond.instanceMethod ({ cls := "TokenHouse", name := "context", desc := "(II)I" } : Jvm.MethodName) ∈ TW := tw_in 773 (by decide +kernel) (by decide +kernel)
theorem tw_774 : Jvm.Cond.selects "TokenHouse" ({ cls := "TokenHouse", name := "context", desc := "(II)I" } : Jvm.MethodName) ({ cls := "TokenHouse", name := "context", desc := "(II)I" } : Jvm.MethodName) ∈ TW := tw_in 774 (by decide +kernel) (by decide +kernel)
set_option maxRecDepth 100000 in
theorem tw_775 : Jvm.Cond.code ({ cls := "TokenHouse", name := "context", desc := "(II)I" } : Jvm.MethodName) prog_1_method_9_code (3 : Nat) (Option.some Jvm.ClassFile.FieldType.int) ∈ TW := tw_in 775 rfl rfl
theorem tw_777 : Jvm.Cond.methodLink "TokenHouseLaw" (79 : Nat) ({ cls := "TokenHouseLaw", name := "cell", desc := "(LTokenHouse;III[J)I" } : Jvm.MethodName) ∈ TW := tw_in 777 (by decide +kernel) (by decide +kernel)
theorem tw_778 : Jvm.Cond.static ({ cls := "TokenHouseLaw", name := "cell", desc := "(LTokenHouse;III[J)I" } : Jvm.MethodName) ∈ TW := tw_in 778 (by decide +kernel) (by decide +kernel)
theorem tw_780 : Jvm.Cond.methodLink "TokenHouseLaw" (30 : Nat) ({ cls := "TokenHouse", name := "cell", desc := "(III)J" } : Jvm.MethodName) ∈ TW := tw_in 780 (by decide +kernel) (by decide +kernel)
theorem tw_781 : Jvm.Cond.instanceMethod ({ cls := "TokenHouse", name := "cell", desc := "(III)J" } : Jvm.MethodName) ∈ TW := tw_in 781 (by decide +kernel) (by decide +kernel)
theorem tw_782 : Jvm.Cond.selects "TokenHouse" ({ cls := "TokenHouse", name := "cell", desc := "(III)J" } : Jvm.MethodName) ({ cls := "TokenHouse", name := "cell", desc := "(III)J" } : Jvm.MethodName) ∈ TW := tw_in 782 (by decide +kernel) (by decide +kernel)
set_option maxRecDepth 100000 in
theorem tw_783 : Jvm.Cond.code ({ cls := "TokenHouse", name := "cell", desc := "(III)J" } : Jvm.MethodName) prog_1_method_10_code (5 : Nat) (Option.some Jvm.ClassFile.FieldType.long) ∈ TW := tw_in 783 rfl rfl
theorem tw_785 : Jvm.Cond.classLink "TokenHouseLaw" (35 : Nat) "TokenHouseModel" ∈ TW := tw_in 785 (by decide +kernel) (by decide +kernel)
theorem tw_786 : Jvm.Cond.instantiable "TokenHouseModel" (41 : Nat) ∈ TW := tw_in 786 (by decide +kernel) (by decide +kernel)
theorem tw_787 : Jvm.Cond.methodLink "TokenHouseLaw" (37 : Nat) ({ cls := "TokenHouseModel", name := "<init>", desc := "()V" } : Jvm.MethodName) ∈ TW := tw_in 787 (by decide +kernel) (by decide +kernel)
theorem tw_788 : Jvm.Cond.instanceMethod ({ cls := "TokenHouseModel", name := "<init>", desc := "()V" } : Jvm.MethodName) ∈ TW := tw_in 788 (by decide +kernel) (by decide +kernel)
set_option maxRecDepth 100000 in
theorem tw_789 : Jvm.Cond.code ({ cls := "TokenHouseModel", name := "<init>", desc := "()V" } : Jvm.MethodName) prog_12_method_1_code (1 : Nat) (Option.none : Option Jvm.ClassFile.FieldType) ∈ TW := tw_in 789 rfl rfl
theorem tw_790 : Jvm.Cond.methodLink "TokenHouseModel" (1 : Nat) ({ cls := "java/lang/Object", name := "<init>", desc := "()V" } : Jvm.MethodName) ∈ TW := tw_in 790 (by decide +kernel) (by decide +kernel)
theorem tw_791 : Jvm.Cond.fieldLink "TokenHouseModel" (102 : Nat) "TokenHouseModel" "thrown" "I" ∈ TW := tw_in 791 (by decide +kernel) (by decide +kernel)
theorem tw_792 : Jvm.Cond.fieldLink "TokenHouseModel" (105 : Nat) "TokenHouseModel" "nodes" "I" ∈ TW := tw_in 792 (by decide +kernel) (by decide +kernel)
theorem tw_793 : Jvm.Cond.fieldLink "TokenHouseModel" (7 : Nat) "TokenHouseModel" "op" "[I" ∈ TW := tw_in 793 (by decide +kernel) (by decide +kernel)
theorem tw_794 : Jvm.Cond.fieldLink "TokenHouseModel" (13 : Nat) "TokenHouseModel" "given" "[I" ∈ TW := tw_in 794 (by decide +kernel) (by decide +kernel)
theorem tw_795 : Jvm.Cond.fieldLink "TokenHouseModel" (16 : Nat) "TokenHouseModel" "arcs" "[I" ∈ TW := tw_in 795 (by decide +kernel) (by decide +kernel)
theorem tw_796 : Jvm.Cond.fieldLink "TokenHouseModel" (19 : Nat) "TokenHouseModel" "arcSide" "[I" ∈ TW := tw_in 796 (by decide +kernel) (by decide +kernel)
theorem tw_797 : Jvm.Cond.fieldLink "TokenHouseModel" (22 : Nat) "TokenHouseModel" "arcTo" "[I" ∈ TW := tw_in 797 (by decide +kernel) (by decide +kernel)
theorem tw_798 : Jvm.Cond.fieldLink "TokenHouseModel" (25 : Nat) "TokenHouseModel" "arcPort" "[I" ∈ TW := tw_in 798 (by decide +kernel) (by decide +kernel)
theorem tw_799 : Jvm.Cond.fieldLink "TokenHouseModel" (112 : Nat) "TokenHouseModel" "begun" "Z" ∈ TW := tw_in 799 (by decide +kernel) (by decide +kernel)
theorem tw_800 : Jvm.Cond.fieldLink "TokenHouseModel" (28 : Nat) "TokenHouseModel" "contexts" "I" ∈ TW := tw_in 800 (by decide +kernel) (by decide +kernel)
theorem tw_801 : Jvm.Cond.fieldLink "TokenHouseModel" (32 : Nat) "TokenHouseModel" "in" "[I" ∈ TW := tw_in 801 (by decide +kernel) (by decide +kernel)
theorem tw_802 : Jvm.Cond.fieldLink "TokenHouseModel" (35 : Nat) "TokenHouseModel" "site" "[I" ∈ TW := tw_in 802 (by decide +kernel) (by decide +kernel)
theorem tw_803 : Jvm.Cond.fieldLink "TokenHouseModel" (38 : Nat) "TokenHouseModel" "round" "[I" ∈ TW := tw_in 803 (by decide +kernel) (by decide +kernel)
theorem tw_804 : Jvm.Cond.fieldLink "TokenHouseModel" (194 : Nat) "TokenHouseModel" "arrays" "I" ∈ TW := tw_in 804 (by decide +kernel) (by decide +kernel)
theorem tw_805 : Jvm.Cond.fieldLink "TokenHouseModel" (41 : Nat) "TokenHouseModel" "size" "[I" ∈ TW := tw_in 805 (by decide +kernel) (by decide +kernel)
theorem tw_806 : Jvm.Cond.fieldLink "TokenHouseModel" (44 : Nat) "TokenHouseModel" "cellKind" "[I" ∈ TW := tw_in 806 (by decide +kernel) (by decide +kernel)
theorem tw_807 : Jvm.Cond.fieldLink "TokenHouseModel" (47 : Nat) "TokenHouseModel" "cellValue" "[J" ∈ TW := tw_in 807 (by decide +kernel) (by decide +kernel)
theorem tw_808 : Jvm.Cond.fieldLink "TokenHouseModel" (123 : Nat) "TokenHouseModel" "tokens" "I" ∈ TW := tw_in 808 (by decide +kernel) (by decide +kernel)
theorem tw_809 : Jvm.Cond.fieldLink "TokenHouseModel" (51 : Nat) "TokenHouseModel" "atNode" "[I" ∈ TW := tw_in 809 (by decide +kernel) (by decide +kernel)
theorem tw_810 : Jvm.Cond.fieldLink "TokenHouseModel" (54 : Nat) "TokenHouseModel" "atPort" "[I" ∈ TW := tw_in 810 (by decide +kernel) (by decide +kernel)
theorem tw_811 : Jvm.Cond.fieldLink "TokenHouseModel" (57 : Nat) "TokenHouseModel" "atContext" "[I" ∈ TW := tw_in 811 (by decide +kernel) (by decide +kernel)
theorem tw_812 : Jvm.Cond.fieldLink "TokenHouseModel" (60 : Nat) "TokenHouseModel" "atKind" "[I" ∈ TW := tw_in 812 (by decide +kernel) (by decide +kernel)
theorem tw_813 : Jvm.Cond.fieldLink "TokenHouseModel" (63 : Nat) "TokenHouseModel" "atValue" "[J" ∈ TW := tw_in 813 (by decide +kernel) (by decide +kernel)
theorem tw_814 : Jvm.Cond.fieldLink "TokenHouseModel" (133 : Nat) "TokenHouseModel" "readies" "I" ∈ TW := tw_in 814 (by decide +kernel) (by decide +kernel)
theorem tw_815 : Jvm.Cond.fieldLink "TokenHouseModel" (66 : Nat) "TokenHouseModel" "readyNode" "[I" ∈ TW := tw_in 815 (by decide +kernel) (by decide +kernel)
theorem tw_816 : Jvm.Cond.fieldLink "TokenHouseModel" (69 : Nat) "TokenHouseModel" "readyContext" "[I" ∈ TW := tw_in 816 (by decide +kernel) (by decide +kernel)
theorem tw_817 : Jvm.Cond.fieldLink "TokenHouseModel" (72 : Nat) "TokenHouseModel" "readyKind" "[I" ∈ TW := tw_in 817 (by decide +kernel) (by decide +kernel)
theorem tw_818 : Jvm.Cond.fieldLink "TokenHouseModel" (75 : Nat) "TokenHouseModel" "readyValue" "[J" ∈ TW := tw_in 818 (by decide +kernel) (by decide +kernel)
theorem tw_819 : Jvm.Cond.fieldLink "TokenHouseModel" (136 : Nat) "TokenHouseModel" "keeps" "I" ∈ TW := tw_in 819 (by decide +kernel) (by decide +kernel)
theorem tw_820 : Jvm.Cond.fieldLink "TokenHouseModel" (78 : Nat) "TokenHouseModel" "keptNode" "[I" ∈ TW := tw_in 820 (by decide +kernel) (by decide +kernel)
theorem tw_821 : Jvm.Cond.fieldLink "TokenHouseModel" (81 : Nat) "TokenHouseModel" "keptContext" "[I" ∈ TW := tw_in 821 (by decide +kernel) (by decide +kernel)
theorem tw_822 : Jvm.Cond.fieldLink "TokenHouseModel" (84 : Nat) "TokenHouseModel" "keptCell" "[I" ∈ TW := tw_in 822 (by decide +kernel) (by decide +kernel)
theorem tw_823 : Jvm.Cond.fieldLink "TokenHouseModel" (175 : Nat) "TokenHouseModel" "results" "I" ∈ TW := tw_in 823 (by decide +kernel) (by decide +kernel)
theorem tw_824 : Jvm.Cond.fieldLink "TokenHouseModel" (87 : Nat) "TokenHouseModel" "resultKind" "[I" ∈ TW := tw_in 824 (by decide +kernel) (by decide +kernel)
theorem tw_825 : Jvm.Cond.fieldLink "TokenHouseModel" (90 : Nat) "TokenHouseModel" "resultValue" "[J" ∈ TW := tw_in 825 (by decide +kernel) (by decide +kernel)
theorem tw_826 : Jvm.Cond.fieldLink "TokenHouseModel" (93 : Nat) "TokenHouseModel" "resultContext" "[I" ∈ TW := tw_in 826 (by decide +kernel) (by decide +kernel)
theorem tw_827 : Jvm.Cond.fieldLink "TokenHouseModel" (126 : Nat) "TokenHouseModel" "trap" "I" ∈ TW := tw_in 827 (by decide +kernel) (by decide +kernel)
theorem tw_828 : Jvm.Cond.fieldLink "TokenHouseModel" (210 : Nat) "TokenHouseModel" "went" "I" ∈ TW := tw_in 828 (by decide +kernel) (by decide +kernel)
theorem tw_829 : Jvm.Cond.fieldLink "TokenHouseModel" (203 : Nat) "TokenHouseModel" "wentInAll" "I" ∈ TW := tw_in 829 (by decide +kernel) (by decide +kernel)
theorem tw_830 : Jvm.Cond.fieldLink "TokenHouseModel" (96 : Nat) "TokenHouseModel" "kind" "[I" ∈ TW := tw_in 830 (by decide +kernel) (by decide +kernel)
theorem tw_831 : Jvm.Cond.fieldLink "TokenHouseModel" (99 : Nat) "TokenHouseModel" "value" "[J" ∈ TW := tw_in 831 (by decide +kernel) (by decide +kernel)
theorem tw_915 : Jvm.Cond.arrayClass Jvm.ClassFile.FieldType.long ∈ TW := tw_in 915 (by decide +kernel) (by decide +kernel)
theorem tw_916 : Jvm.Cond.methodLink "TokenHouseLaw" (44 : Nat) ({ cls := "TokenHouseModel", name := "thrown", desc := "()I" } : Jvm.MethodName) ∈ TW := tw_in 916 (by decide +kernel) (by decide +kernel)
theorem tw_917 : Jvm.Cond.instanceMethod ({ cls := "TokenHouseModel", name := "thrown", desc := "()I" } : Jvm.MethodName) ∈ TW := tw_in 917 (by decide +kernel) (by decide +kernel)
theorem tw_918 : Jvm.Cond.selects "TokenHouseModel" ({ cls := "TokenHouseModel", name := "thrown", desc := "()I" } : Jvm.MethodName) ({ cls := "TokenHouseModel", name := "thrown", desc := "()I" } : Jvm.MethodName) ∈ TW := tw_in 918 (by decide +kernel) (by decide +kernel)
set_option maxRecDepth 100000 in
theorem tw_919 : Jvm.Cond.code ({ cls := "TokenHouseModel", name := "thrown", desc := "()I" } : Jvm.MethodName) prog_12_method_2_code (1 : Nat) (Option.some Jvm.ClassFile.FieldType.int) ∈ TW := tw_in 919 rfl rfl
theorem tw_920 : Jvm.Cond.methodLink "TokenHouseLaw" (43 : Nat) ({ cls := "TokenHouseModel", name := "node", desc := "(II)I" } : Jvm.MethodName) ∈ TW := tw_in 920 (by decide +kernel) (by decide +kernel)
theorem tw_921 : Jvm.Cond.instanceMethod ({ cls := "TokenHouseModel", name := "node", desc := "(II)I" } : Jvm.MethodName) ∈ TW := tw_in 921 (by decide +kernel) (by decide +kernel)
theorem tw_922 : Jvm.Cond.selects "TokenHouseModel" ({ cls := "TokenHouseModel", name := "node", desc := "(II)I" } : Jvm.MethodName) ({ cls := "TokenHouseModel", name := "node", desc := "(II)I" } : Jvm.MethodName) ∈ TW := tw_in 922 (by decide +kernel) (by decide +kernel)
set_option maxRecDepth 100000 in
theorem tw_923 : Jvm.Cond.code ({ cls := "TokenHouseModel", name := "node", desc := "(II)I" } : Jvm.MethodName) prog_12_method_6_code (3 : Nat) (Option.some Jvm.ClassFile.FieldType.int) ∈ TW := tw_in 923 rfl rfl
theorem tw_924 : Jvm.Cond.methodLink "TokenHouseModel" (108 : Nat) ({ cls := "TokenHouseModel", name := "raise", desc := "(I)I" } : Jvm.MethodName) ∈ TW := tw_in 924 (by decide +kernel) (by decide +kernel)
theorem tw_926 : Jvm.Cond.instanceMethod ({ cls := "TokenHouseModel", name := "raise", desc := "(I)I" } : Jvm.MethodName) ∈ TW := tw_in 926 (by decide +kernel) (by decide +kernel)
set_option maxRecDepth 100000 in
theorem tw_927 : Jvm.Cond.code ({ cls := "TokenHouseModel", name := "raise", desc := "(I)I" } : Jvm.MethodName) prog_12_method_3_code (2 : Nat) (Option.some Jvm.ClassFile.FieldType.int) ∈ TW := tw_in 927 rfl rfl
theorem tw_928 : Jvm.Cond.methodLink "TokenHouseLaw" (52 : Nat) ({ cls := "TokenHouseModel", name := "arc", desc := "(IIII)Z" } : Jvm.MethodName) ∈ TW := tw_in 928 (by decide +kernel) (by decide +kernel)
theorem tw_929 : Jvm.Cond.instanceMethod ({ cls := "TokenHouseModel", name := "arc", desc := "(IIII)Z" } : Jvm.MethodName) ∈ TW := tw_in 929 (by decide +kernel) (by decide +kernel)
theorem tw_930 : Jvm.Cond.selects "TokenHouseModel" ({ cls := "TokenHouseModel", name := "arc", desc := "(IIII)Z" } : Jvm.MethodName) ({ cls := "TokenHouseModel", name := "arc", desc := "(IIII)Z" } : Jvm.MethodName) ∈ TW := tw_in 930 (by decide +kernel) (by decide +kernel)
set_option maxRecDepth 100000 in
theorem tw_931 : Jvm.Cond.code ({ cls := "TokenHouseModel", name := "arc", desc := "(IIII)Z" } : Jvm.MethodName) prog_12_method_7_code (7 : Nat) (Option.some Jvm.ClassFile.FieldType.boolean) ∈ TW := tw_in 931 rfl rfl
theorem tw_932 : Jvm.Cond.methodLink "TokenHouseModel" (116 : Nat) ({ cls := "TokenHouseModel", name := "isNode", desc := "(I)Z" } : Jvm.MethodName) ∈ TW := tw_in 932 (by decide +kernel) (by decide +kernel)
theorem tw_934 : Jvm.Cond.instanceMethod ({ cls := "TokenHouseModel", name := "isNode", desc := "(I)Z" } : Jvm.MethodName) ∈ TW := tw_in 934 (by decide +kernel) (by decide +kernel)
set_option maxRecDepth 100000 in
theorem tw_935 : Jvm.Cond.code ({ cls := "TokenHouseModel", name := "isNode", desc := "(I)Z" } : Jvm.MethodName) prog_12_method_5_code (2 : Nat) (Option.some Jvm.ClassFile.FieldType.boolean) ∈ TW := tw_in 935 rfl rfl
theorem tw_936 : Jvm.Cond.methodLink "TokenHouseModel" (120 : Nat) ({ cls := "TokenHouseModel", name := "ports", desc := "(I)I" } : Jvm.MethodName) ∈ TW := tw_in 936 (by decide +kernel) (by decide +kernel)
theorem tw_937 : Jvm.Cond.static ({ cls := "TokenHouseModel", name := "ports", desc := "(I)I" } : Jvm.MethodName) ∈ TW := tw_in 937 (by decide +kernel) (by decide +kernel)
set_option maxRecDepth 100000 in
theorem tw_938 : Jvm.Cond.code ({ cls := "TokenHouseModel", name := "ports", desc := "(I)I" } : Jvm.MethodName) prog_12_method_4_code (1 : Nat) (Option.some Jvm.ClassFile.FieldType.int) ∈ TW := tw_in 938 rfl rfl
theorem tw_939 : Jvm.Cond.methodLink "TokenHouseLaw" (59 : Nat) ({ cls := "TokenHouseModel", name := "token", desc := "(IIJ)Z" } : Jvm.MethodName) ∈ TW := tw_in 939 (by decide +kernel) (by decide +kernel)
theorem tw_940 : Jvm.Cond.instanceMethod ({ cls := "TokenHouseModel", name := "token", desc := "(IIJ)Z" } : Jvm.MethodName) ∈ TW := tw_in 940 (by decide +kernel) (by decide +kernel)
theorem tw_941 : Jvm.Cond.selects "TokenHouseModel" ({ cls := "TokenHouseModel", name := "token", desc := "(IIJ)Z" } : Jvm.MethodName) ({ cls := "TokenHouseModel", name := "token", desc := "(IIJ)Z" } : Jvm.MethodName) ∈ TW := tw_in 941 (by decide +kernel) (by decide +kernel)
set_option maxRecDepth 100000 in
theorem tw_942 : Jvm.Cond.code ({ cls := "TokenHouseModel", name := "token", desc := "(IIJ)Z" } : Jvm.MethodName) prog_12_method_11_code (5 : Nat) (Option.some Jvm.ClassFile.FieldType.boolean) ∈ TW := tw_in 942 rfl rfl
theorem tw_943 : Jvm.Cond.methodLink "TokenHouseModel" (143 : Nat) ({ cls := "TokenHouseModel", name := "comes", desc := "(IIIIJ)V" } : Jvm.MethodName) ∈ TW := tw_in 943 (by decide +kernel) (by decide +kernel)
theorem tw_945 : Jvm.Cond.instanceMethod ({ cls := "TokenHouseModel", name := "comes", desc := "(IIIIJ)V" } : Jvm.MethodName) ∈ TW := tw_in 945 (by decide +kernel) (by decide +kernel)
set_option maxRecDepth 100000 in
theorem tw_946 : Jvm.Cond.code ({ cls := "TokenHouseModel", name := "comes", desc := "(IIIIJ)V" } : Jvm.MethodName) prog_12_method_9_code (7 : Nat) (Option.none : Option Jvm.ClassFile.FieldType) ∈ TW := tw_in 946 rfl rfl
theorem tw_947 : Jvm.Cond.methodLink "TokenHouseModel" (129 : Nat) ({ cls := "TokenHouseModel", name := "waits", desc := "(III)I" } : Jvm.MethodName) ∈ TW := tw_in 947 (by decide +kernel) (by decide +kernel)
theorem tw_949 : Jvm.Cond.instanceMethod ({ cls := "TokenHouseModel", name := "waits", desc := "(III)I" } : Jvm.MethodName) ∈ TW := tw_in 949 (by decide +kernel) (by decide +kernel)
set_option maxRecDepth 100000 in
theorem tw_950 : Jvm.Cond.code ({ cls := "TokenHouseModel", name := "waits", desc := "(III)I" } : Jvm.MethodName) prog_12_method_8_code (5 : Nat) (Option.some Jvm.ClassFile.FieldType.int) ∈ TW := tw_in 950 rfl rfl
theorem tw_951 : Jvm.Cond.methodLink "TokenHouseModel" (139 : Nat) ({ cls := "TokenHouseModel", name := "gather", desc := "(II)V" } : Jvm.MethodName) ∈ TW := tw_in 951 (by decide +kernel) (by decide +kernel)
theorem tw_953 : Jvm.Cond.instanceMethod ({ cls := "TokenHouseModel", name := "gather", desc := "(II)V" } : Jvm.MethodName) ∈ TW := tw_in 953 (by decide +kernel) (by decide +kernel)
set_option maxRecDepth 100000 in
theorem tw_954 : Jvm.Cond.code ({ cls := "TokenHouseModel", name := "gather", desc := "(II)V" } : Jvm.MethodName) prog_12_method_10_code (7 : Nat) (Option.none : Option Jvm.ClassFile.FieldType) ∈ TW := tw_in 954 rfl rfl
theorem tw_955 : Jvm.Cond.methodLink "TokenHouseLaw" (63 : Nat) ({ cls := "TokenHouseModel", name := "run", desc := "(IJ)I" } : Jvm.MethodName) ∈ TW := tw_in 955 (by decide +kernel) (by decide +kernel)
theorem tw_956 : Jvm.Cond.instanceMethod ({ cls := "TokenHouseModel", name := "run", desc := "(IJ)I" } : Jvm.MethodName) ∈ TW := tw_in 956 (by decide +kernel) (by decide +kernel)
theorem tw_957 : Jvm.Cond.selects "TokenHouseModel" ({ cls := "TokenHouseModel", name := "run", desc := "(IJ)I" } : Jvm.MethodName) ({ cls := "TokenHouseModel", name := "run", desc := "(IJ)I" } : Jvm.MethodName) ∈ TW := tw_in 957 (by decide +kernel) (by decide +kernel)
set_option maxRecDepth 100000 in
theorem tw_958 : Jvm.Cond.code ({ cls := "TokenHouseModel", name := "run", desc := "(IJ)I" } : Jvm.MethodName) prog_12_method_27_code (8 : Nat) (Option.some Jvm.ClassFile.FieldType.int) ∈ TW := tw_in 958 rfl rfl
theorem tw_959 : Jvm.Cond.constantLong "TokenHouseModel" (206 : Nat) (25214903917 : Int64) ∈ TW := tw_in 959 (by decide +kernel) (by decide +kernel)
theorem tw_960 : Jvm.Cond.constantLong "TokenHouseModel" (208 : Nat) (11 : Int64) ∈ TW := tw_in 960 (by decide +kernel) (by decide +kernel)
theorem tw_961 : Jvm.Cond.methodLink "TokenHouseModel" (213 : Nat) ({ cls := "TokenHouseModel", name := "go", desc := "(I)V" } : Jvm.MethodName) ∈ TW := tw_in 961 (by decide +kernel) (by decide +kernel)
theorem tw_963 : Jvm.Cond.instanceMethod ({ cls := "TokenHouseModel", name := "go", desc := "(I)V" } : Jvm.MethodName) ∈ TW := tw_in 963 (by decide +kernel) (by decide +kernel)
set_option maxRecDepth 100000 in
theorem tw_964 : Jvm.Cond.code ({ cls := "TokenHouseModel", name := "go", desc := "(I)V" } : Jvm.MethodName) prog_12_method_17_code (5 : Nat) (Option.none : Option Jvm.ClassFile.FieldType) ∈ TW := tw_in 964 rfl rfl
theorem tw_965 : Jvm.Cond.methodLink "TokenHouseModel" (150 : Nat) ({ cls := "TokenHouseModel", name := "take", desc := "(I)V" } : Jvm.MethodName) ∈ TW := tw_in 965 (by decide +kernel) (by decide +kernel)
theorem tw_967 : Jvm.Cond.instanceMethod ({ cls := "TokenHouseModel", name := "take", desc := "(I)V" } : Jvm.MethodName) ∈ TW := tw_in 967 (by decide +kernel) (by decide +kernel)
set_option maxRecDepth 100000 in
theorem tw_968 : Jvm.Cond.code ({ cls := "TokenHouseModel", name := "take", desc := "(I)V" } : Jvm.MethodName) prog_12_method_16_code (4 : Nat) (Option.none : Option Jvm.ClassFile.FieldType) ∈ TW := tw_in 968 rfl rfl
theorem tw_969 : Jvm.Cond.methodLink "TokenHouseModel" (147 : Nat) ({ cls := "TokenHouseModel", name := "send", desc := "(IIIIJ)V" } : Jvm.MethodName) ∈ TW := tw_in 969 (by decide +kernel) (by decide +kernel)
theorem tw_971 : Jvm.Cond.instanceMethod ({ cls := "TokenHouseModel", name := "send", desc := "(IIIIJ)V" } : Jvm.MethodName) ∈ TW := tw_in 971 (by decide +kernel) (by decide +kernel)
set_option maxRecDepth 100000 in
theorem tw_972 : Jvm.Cond.code ({ cls := "TokenHouseModel", name := "send", desc := "(IIIIJ)V" } : Jvm.MethodName) prog_12_method_12_code (8 : Nat) (Option.none : Option Jvm.ClassFile.FieldType) ∈ TW := tw_in 972 rfl rfl
theorem tw_973 : Jvm.Cond.methodLink "TokenHouseModel" (154 : Nat) ({ cls := "TokenHouseModel", name := "reckon", desc := "(II)V" } : Jvm.MethodName) ∈ TW := tw_in 973 (by decide +kernel) (by decide +kernel)
theorem tw_975 : Jvm.Cond.instanceMethod ({ cls := "TokenHouseModel", name := "reckon", desc := "(II)V" } : Jvm.MethodName) ∈ TW := tw_in 975 (by decide +kernel) (by decide +kernel)
set_option maxRecDepth 100000 in
theorem tw_976 : Jvm.Cond.code ({ cls := "TokenHouseModel", name := "reckon", desc := "(II)V" } : Jvm.MethodName) prog_12_method_19_code (10 : Nat) (Option.none : Option Jvm.ClassFile.FieldType) ∈ TW := tw_in 976 rfl rfl
theorem tw_977 : Jvm.Cond.methodLink "TokenHouseModel" (178 : Nat) ({ cls := "TokenHouseModel", name := "errorOf", desc := "(I)I" } : Jvm.MethodName) ∈ TW := tw_in 977 (by decide +kernel) (by decide +kernel)
theorem tw_979 : Jvm.Cond.instanceMethod ({ cls := "TokenHouseModel", name := "errorOf", desc := "(I)I" } : Jvm.MethodName) ∈ TW := tw_in 979 (by decide +kernel) (by decide +kernel)
set_option maxRecDepth 100000 in
theorem tw_980 : Jvm.Cond.code ({ cls := "TokenHouseModel", name := "errorOf", desc := "(I)I" } : Jvm.MethodName) prog_12_method_15_code (4 : Nat) (Option.some Jvm.ClassFile.FieldType.int) ∈ TW := tw_in 980 rfl rfl
theorem tw_981 : Jvm.Cond.methodLink "TokenHouseModel" (181 : Nat) ({ cls := "TokenHouseModel", name := "sendError", desc := "(III)V" } : Jvm.MethodName) ∈ TW := tw_in 981 (by decide +kernel) (by decide +kernel)
theorem tw_983 : Jvm.Cond.instanceMethod ({ cls := "TokenHouseModel", name := "sendError", desc := "(III)V" } : Jvm.MethodName) ∈ TW := tw_in 983 (by decide +kernel) (by decide +kernel)
set_option maxRecDepth 100000 in
theorem tw_984 : Jvm.Cond.code ({ cls := "TokenHouseModel", name := "sendError", desc := "(III)V" } : Jvm.MethodName) prog_12_method_14_code (4 : Nat) (Option.none : Option Jvm.ClassFile.FieldType) ∈ TW := tw_in 984 rfl rfl
theorem tw_985 : Jvm.Cond.constantLong "TokenHouseModel" (185 : Nat) (-1 : Int64) ∈ TW := tw_in 985 (by decide +kernel) (by decide +kernel)
theorem tw_986 : Jvm.Cond.methodLink "TokenHouseModel" (157 : Nat) ({ cls := "TokenHouseModel", name := "part", desc := "(II)V" } : Jvm.MethodName) ∈ TW := tw_in 986 (by decide +kernel) (by decide +kernel)
theorem tw_988 : Jvm.Cond.instanceMethod ({ cls := "TokenHouseModel", name := "part", desc := "(II)V" } : Jvm.MethodName) ∈ TW := tw_in 988 (by decide +kernel) (by decide +kernel)
set_option maxRecDepth 100000 in
theorem tw_989 : Jvm.Cond.code ({ cls := "TokenHouseModel", name := "part", desc := "(II)V" } : Jvm.MethodName) prog_12_method_20_code (5 : Nat) (Option.none : Option Jvm.ClassFile.FieldType) ∈ TW := tw_in 989 rfl rfl
theorem tw_990 : Jvm.Cond.constantLong "TokenHouseModel" (187 : Nat) (4 : Int64) ∈ TW := tw_in 990 (by decide +kernel) (by decide +kernel)
theorem tw_991 : Jvm.Cond.methodLink "TokenHouseModel" (160 : Nat) ({ cls := "TokenHouseModel", name := "turn", desc := "(II)V" } : Jvm.MethodName) ∈ TW := tw_in 991 (by decide +kernel) (by decide +kernel)
theorem tw_993 : Jvm.Cond.instanceMethod ({ cls := "TokenHouseModel", name := "turn", desc := "(II)V" } : Jvm.MethodName) ∈ TW := tw_in 993 (by decide +kernel) (by decide +kernel)
set_option maxRecDepth 100000 in
theorem tw_994 : Jvm.Cond.code ({ cls := "TokenHouseModel", name := "turn", desc := "(II)V" } : Jvm.MethodName) prog_12_method_21_code (5 : Nat) (Option.none : Option Jvm.ClassFile.FieldType) ∈ TW := tw_in 994 rfl rfl
theorem tw_995 : Jvm.Cond.methodLink "TokenHouseModel" (189 : Nat) ({ cls := "TokenHouseModel", name := "contextOf", desc := "(III)I" } : Jvm.MethodName) ∈ TW := tw_in 995 (by decide +kernel) (by decide +kernel)
theorem tw_997 : Jvm.Cond.instanceMethod ({ cls := "TokenHouseModel", name := "contextOf", desc := "(III)I" } : Jvm.MethodName) ∈ TW := tw_in 997 (by decide +kernel) (by decide +kernel)
set_option maxRecDepth 100000 in
theorem tw_998 : Jvm.Cond.code ({ cls := "TokenHouseModel", name := "contextOf", desc := "(III)I" } : Jvm.MethodName) prog_12_method_13_code (5 : Nat) (Option.some Jvm.ClassFile.FieldType.int) ∈ TW := tw_in 998 rfl rfl
theorem tw_999 : Jvm.Cond.methodLink "TokenHouseModel" (163 : Nat) ({ cls := "TokenHouseModel", name := "callOrBack", desc := "(II)V" } : Jvm.MethodName) ∈ TW := tw_in 999 (by decide +kernel) (by decide +kernel)
theorem tw_1001 : Jvm.Cond.instanceMethod ({ cls := "TokenHouseModel", name := "callOrBack", desc := "(II)V" } : Jvm.MethodName) ∈ TW := tw_in 1001 (by decide +kernel) (by decide +kernel)
set_option maxRecDepth 100000 in
theorem tw_1002 : Jvm.Cond.code ({ cls := "TokenHouseModel", name := "callOrBack", desc := "(II)V" } : Jvm.MethodName) prog_12_method_22_code (4 : Nat) (Option.none : Option Jvm.ClassFile.FieldType) ∈ TW := tw_in 1002 rfl rfl
theorem tw_1003 : Jvm.Cond.methodLink "TokenHouseModel" (166 : Nat) ({ cls := "TokenHouseModel", name := "make", desc := "(II)V" } : Jvm.MethodName) ∈ TW := tw_in 1003 (by decide +kernel) (by decide +kernel)
theorem tw_1005 : Jvm.Cond.instanceMethod ({ cls := "TokenHouseModel", name := "make", desc := "(II)V" } : Jvm.MethodName) ∈ TW := tw_in 1005 (by decide +kernel) (by decide +kernel)
set_option maxRecDepth 100000 in
theorem tw_1006 : Jvm.Cond.code ({ cls := "TokenHouseModel", name := "make", desc := "(II)V" } : Jvm.MethodName) prog_12_method_23_code (5 : Nat) (Option.none : Option Jvm.ClassFile.FieldType) ∈ TW := tw_in 1006 rfl rfl
theorem tw_1007 : Jvm.Cond.constantLong "TokenHouseModel" (192 : Nat) (8 : Int64) ∈ TW := tw_in 1007 (by decide +kernel) (by decide +kernel)
theorem tw_1008 : Jvm.Cond.methodLink "TokenHouseModel" (169 : Nat) ({ cls := "TokenHouseModel", name := "keepResult", desc := "(I)V" } : Jvm.MethodName) ∈ TW := tw_in 1008 (by decide +kernel) (by decide +kernel)
theorem tw_1010 : Jvm.Cond.instanceMethod ({ cls := "TokenHouseModel", name := "keepResult", desc := "(I)V" } : Jvm.MethodName) ∈ TW := tw_in 1010 (by decide +kernel) (by decide +kernel)
set_option maxRecDepth 100000 in
theorem tw_1011 : Jvm.Cond.code ({ cls := "TokenHouseModel", name := "keepResult", desc := "(I)V" } : Jvm.MethodName) prog_12_method_18_code (2 : Nat) (Option.none : Option Jvm.ClassFile.FieldType) ∈ TW := tw_in 1011 rfl rfl
theorem tw_1012 : Jvm.Cond.methodLink "TokenHouseModel" (172 : Nat) ({ cls := "TokenHouseModel", name := "atCell", desc := "(II)V" } : Jvm.MethodName) ∈ TW := tw_in 1012 (by decide +kernel) (by decide +kernel)
theorem tw_1014 : Jvm.Cond.instanceMethod ({ cls := "TokenHouseModel", name := "atCell", desc := "(II)V" } : Jvm.MethodName) ∈ TW := tw_in 1014 (by decide +kernel) (by decide +kernel)
set_option maxRecDepth 100000 in
theorem tw_1015 : Jvm.Cond.code ({ cls := "TokenHouseModel", name := "atCell", desc := "(II)V" } : Jvm.MethodName) prog_12_method_24_code (5 : Nat) (Option.none : Option Jvm.ClassFile.FieldType) ∈ TW := tw_in 1015 rfl rfl
theorem tw_1016 : Jvm.Cond.methodLink "TokenHouseModel" (197 : Nat) ({ cls := "TokenHouseModel", name := "store", desc := "(III)V" } : Jvm.MethodName) ∈ TW := tw_in 1016 (by decide +kernel) (by decide +kernel)
theorem tw_1018 : Jvm.Cond.instanceMethod ({ cls := "TokenHouseModel", name := "store", desc := "(III)V" } : Jvm.MethodName) ∈ TW := tw_in 1018 (by decide +kernel) (by decide +kernel)
set_option maxRecDepth 100000 in
theorem tw_1019 : Jvm.Cond.code ({ cls := "TokenHouseModel", name := "store", desc := "(III)V" } : Jvm.MethodName) prog_12_method_25_code (5 : Nat) (Option.none : Option Jvm.ClassFile.FieldType) ∈ TW := tw_in 1019 rfl rfl
theorem tw_1020 : Jvm.Cond.methodLink "TokenHouseModel" (200 : Nat) ({ cls := "TokenHouseModel", name := "serve", desc := "(I)V" } : Jvm.MethodName) ∈ TW := tw_in 1020 (by decide +kernel) (by decide +kernel)
theorem tw_1022 : Jvm.Cond.instanceMethod ({ cls := "TokenHouseModel", name := "serve", desc := "(I)V" } : Jvm.MethodName) ∈ TW := tw_in 1022 (by decide +kernel) (by decide +kernel)
set_option maxRecDepth 100000 in
theorem tw_1023 : Jvm.Cond.code ({ cls := "TokenHouseModel", name := "serve", desc := "(I)V" } : Jvm.MethodName) prog_12_method_26_code (6 : Nat) (Option.none : Option Jvm.ClassFile.FieldType) ∈ TW := tw_in 1023 rfl rfl
theorem tw_1024 : Jvm.Cond.methodLink "TokenHouseLaw" (68 : Nat) ({ cls := "TokenHouseModel", name := "clear", desc := "(Z)V" } : Jvm.MethodName) ∈ TW := tw_in 1024 (by decide +kernel) (by decide +kernel)
theorem tw_1025 : Jvm.Cond.instanceMethod ({ cls := "TokenHouseModel", name := "clear", desc := "(Z)V" } : Jvm.MethodName) ∈ TW := tw_in 1025 (by decide +kernel) (by decide +kernel)
theorem tw_1026 : Jvm.Cond.selects "TokenHouseModel" ({ cls := "TokenHouseModel", name := "clear", desc := "(Z)V" } : Jvm.MethodName) ({ cls := "TokenHouseModel", name := "clear", desc := "(Z)V" } : Jvm.MethodName) ∈ TW := tw_in 1026 (by decide +kernel) (by decide +kernel)
set_option maxRecDepth 100000 in
theorem tw_1027 : Jvm.Cond.code ({ cls := "TokenHouseModel", name := "clear", desc := "(Z)V" } : Jvm.MethodName) prog_12_method_28_code (2 : Nat) (Option.none : Option Jvm.ClassFile.FieldType) ∈ TW := tw_in 1027 rfl rfl
theorem tw_1028 : Jvm.Cond.methodLink "TokenHouseLaw" (72 : Nat) ({ cls := "TokenHouseModel", name := "ready", desc := "(II)I" } : Jvm.MethodName) ∈ TW := tw_in 1028 (by decide +kernel) (by decide +kernel)
theorem tw_1029 : Jvm.Cond.instanceMethod ({ cls := "TokenHouseModel", name := "ready", desc := "(II)I" } : Jvm.MethodName) ∈ TW := tw_in 1029 (by decide +kernel) (by decide +kernel)
theorem tw_1030 : Jvm.Cond.selects "TokenHouseModel" ({ cls := "TokenHouseModel", name := "ready", desc := "(II)I" } : Jvm.MethodName) ({ cls := "TokenHouseModel", name := "ready", desc := "(II)I" } : Jvm.MethodName) ∈ TW := tw_in 1030 (by decide +kernel) (by decide +kernel)
set_option maxRecDepth 100000 in
theorem tw_1031 : Jvm.Cond.code ({ cls := "TokenHouseModel", name := "ready", desc := "(II)I" } : Jvm.MethodName) prog_12_method_29_code (3 : Nat) (Option.some Jvm.ClassFile.FieldType.int) ∈ TW := tw_in 1031 rfl rfl
theorem tw_1032 : Jvm.Cond.methodLink "TokenHouseLaw" (75 : Nat) ({ cls := "TokenHouseModel", name := "result", desc := "(II)J" } : Jvm.MethodName) ∈ TW := tw_in 1032 (by decide +kernel) (by decide +kernel)
theorem tw_1033 : Jvm.Cond.instanceMethod ({ cls := "TokenHouseModel", name := "result", desc := "(II)J" } : Jvm.MethodName) ∈ TW := tw_in 1033 (by decide +kernel) (by decide +kernel)
theorem tw_1034 : Jvm.Cond.selects "TokenHouseModel" ({ cls := "TokenHouseModel", name := "result", desc := "(II)J" } : Jvm.MethodName) ({ cls := "TokenHouseModel", name := "result", desc := "(II)J" } : Jvm.MethodName) ∈ TW := tw_in 1034 (by decide +kernel) (by decide +kernel)
set_option maxRecDepth 100000 in
theorem tw_1035 : Jvm.Cond.code ({ cls := "TokenHouseModel", name := "result", desc := "(II)J" } : Jvm.MethodName) prog_12_method_30_code (3 : Nat) (Option.some Jvm.ClassFile.FieldType.long) ∈ TW := tw_in 1035 rfl rfl
theorem tw_1036 : Jvm.Cond.methodLink "TokenHouseLaw" (78 : Nat) ({ cls := "TokenHouseModel", name := "context", desc := "(II)I" } : Jvm.MethodName) ∈ TW := tw_in 1036 (by decide +kernel) (by decide +kernel)
theorem tw_1037 : Jvm.Cond.instanceMethod ({ cls := "TokenHouseModel", name := "context", desc := "(II)I" } : Jvm.MethodName) ∈ TW := tw_in 1037 (by decide +kernel) (by decide +kernel)
theorem tw_1038 : Jvm.Cond.selects "TokenHouseModel" ({ cls := "TokenHouseModel", name := "context", desc := "(II)I" } : Jvm.MethodName) ({ cls := "TokenHouseModel", name := "context", desc := "(II)I" } : Jvm.MethodName) ∈ TW := tw_in 1038 (by decide +kernel) (by decide +kernel)
set_option maxRecDepth 100000 in
theorem tw_1039 : Jvm.Cond.code ({ cls := "TokenHouseModel", name := "context", desc := "(II)I" } : Jvm.MethodName) prog_12_method_31_code (3 : Nat) (Option.some Jvm.ClassFile.FieldType.int) ∈ TW := tw_in 1039 rfl rfl
theorem tw_1040 : Jvm.Cond.methodLink "TokenHouseLaw" (82 : Nat) ({ cls := "TokenHouseModel", name := "cell", desc := "(III)J" } : Jvm.MethodName) ∈ TW := tw_in 1040 (by decide +kernel) (by decide +kernel)
theorem tw_1041 : Jvm.Cond.instanceMethod ({ cls := "TokenHouseModel", name := "cell", desc := "(III)J" } : Jvm.MethodName) ∈ TW := tw_in 1041 (by decide +kernel) (by decide +kernel)
theorem tw_1042 : Jvm.Cond.selects "TokenHouseModel" ({ cls := "TokenHouseModel", name := "cell", desc := "(III)J" } : Jvm.MethodName) ({ cls := "TokenHouseModel", name := "cell", desc := "(III)J" } : Jvm.MethodName) ∈ TW := tw_in 1042 (by decide +kernel) (by decide +kernel)
set_option maxRecDepth 100000 in
theorem tw_1043 : Jvm.Cond.code ({ cls := "TokenHouseModel", name := "cell", desc := "(III)J" } : Jvm.MethodName) prog_12_method_32_code (7 : Nat) (Option.some Jvm.ClassFile.FieldType.long) ∈ TW := tw_in 1043 rfl rfl
theorem tw_1044 : Jvm.Cond.methodLink "TokenHouseLaw" (86 : Nat) ({ cls := "TokenHouseModel", name := "waiting", desc := "(II)I" } : Jvm.MethodName) ∈ TW := tw_in 1044 (by decide +kernel) (by decide +kernel)
theorem tw_1045 : Jvm.Cond.instanceMethod ({ cls := "TokenHouseModel", name := "waiting", desc := "(II)I" } : Jvm.MethodName) ∈ TW := tw_in 1045 (by decide +kernel) (by decide +kernel)
theorem tw_1046 : Jvm.Cond.selects "TokenHouseModel" ({ cls := "TokenHouseModel", name := "waiting", desc := "(II)I" } : Jvm.MethodName) ({ cls := "TokenHouseModel", name := "waiting", desc := "(II)I" } : Jvm.MethodName) ∈ TW := tw_in 1046 (by decide +kernel) (by decide +kernel)
set_option maxRecDepth 100000 in
theorem tw_1047 : Jvm.Cond.code ({ cls := "TokenHouseModel", name := "waiting", desc := "(II)I" } : Jvm.MethodName) prog_12_method_33_code (5 : Nat) (Option.some Jvm.ClassFile.FieldType.int) ∈ TW := tw_in 1047 rfl rfl
theorem tw_1048 : Jvm.Cond.methodLink "TokenHouseLaw" (91 : Nat) ({ cls := "TokenHouseModel", name := "total", desc := "(I)I" } : Jvm.MethodName) ∈ TW := tw_in 1048 (by decide +kernel) (by decide +kernel)
theorem tw_1049 : Jvm.Cond.instanceMethod ({ cls := "TokenHouseModel", name := "total", desc := "(I)I" } : Jvm.MethodName) ∈ TW := tw_in 1049 (by decide +kernel) (by decide +kernel)
theorem tw_1050 : Jvm.Cond.selects "TokenHouseModel" ({ cls := "TokenHouseModel", name := "total", desc := "(I)I" } : Jvm.MethodName) ({ cls := "TokenHouseModel", name := "total", desc := "(I)I" } : Jvm.MethodName) ∈ TW := tw_in 1050 (by decide +kernel) (by decide +kernel)
set_option maxRecDepth 100000 in
theorem tw_1051 : Jvm.Cond.code ({ cls := "TokenHouseModel", name := "total", desc := "(I)I" } : Jvm.MethodName) prog_12_method_34_code (2 : Nat) (Option.some Jvm.ClassFile.FieldType.int) ∈ TW := tw_in 1051 rfl rfl
theorem tw_1052 : Jvm.Cond.constantLong "TokenHouseLaw" (53 : Nat) (4294967295 : Int64) ∈ TW := tw_in 1052 (by decide +kernel) (by decide +kernel)
theorem tw_1059 : Jvm.Cond.selects "[Ljava/lang/Object;" ({ cls := "java/lang/Object", name := "getClass", desc := "()Ljava/lang/Class;" } : Jvm.MethodName) ({ cls := "java/lang/Object", name := "getClass", desc := "()Ljava/lang/Class;" } : Jvm.MethodName) ∈ TW := tw_in 1059 (by decide +kernel) (by decide +kernel)
theorem inJx4a65ca : ∀ w ∈ u_ws RJx4a65c TJx4a65c 3, w ∈ lw_tbl := by decide +kernel
theorem inJx4a65cb : (u_ws RJx4a65c TJx4a65c 3).all goodWord = true := by decide +kernel
theorem inJx4a65c : ∀ w ∈ u_ws RJx4a65c TJx4a65c 3, w ∈ TW := fun w h => List.mem_filter.mpr ⟨inJx4a65ca w h, List.all_eq_true.mp inJx4a65cb w h⟩
theorem inX0a : ∀ w ∈ u_ws RX0 TX0 3, w ∈ lw_tbl := by decide +kernel
theorem inX0b : (u_ws RX0 TX0 3).all goodWord = true := by decide +kernel
theorem inX0 : ∀ w ∈ u_ws RX0 TX0 3, w ∈ TW := fun w h => List.mem_filter.mpr ⟨inX0a w h, List.all_eq_true.mp inX0b w h⟩
theorem inX1a : ∀ w ∈ u_ws RX1 TX1 2, w ∈ lw_tbl := by decide +kernel
theorem inX1b : (u_ws RX1 TX1 2).all goodWord = true := by decide +kernel
theorem inX1 : ∀ w ∈ u_ws RX1 TX1 2, w ∈ TW := fun w h => List.mem_filter.mpr ⟨inX1a w h, List.all_eq_true.mp inX1b w h⟩
theorem inX2a : ∀ w ∈ u_ws RX2 TX2 4, w ∈ lw_tbl := by decide +kernel
theorem inX2b : (u_ws RX2 TX2 4).all goodWord = true := by decide +kernel
theorem inX2 : ∀ w ∈ u_ws RX2 TX2 4, w ∈ TW := fun w h => List.mem_filter.mpr ⟨inX2a w h, List.all_eq_true.mp inX2b w h⟩
theorem inX3a : ∀ w ∈ u_ws RX3 TX3 4, w ∈ lw_tbl := by decide +kernel
theorem inX3b : (u_ws RX3 TX3 4).all goodWord = true := by decide +kernel
theorem inX3 : ∀ w ∈ u_ws RX3 TX3 4, w ∈ TW := fun w h => List.mem_filter.mpr ⟨inX3a w h, List.all_eq_true.mp inX3b w h⟩
theorem inX4a : ∀ w ∈ u_ws RX4 TX4 5, w ∈ lw_tbl := by decide +kernel
theorem inX4b : (u_ws RX4 TX4 5).all goodWord = true := by decide +kernel
theorem inX4 : ∀ w ∈ u_ws RX4 TX4 5, w ∈ TW := fun w h => List.mem_filter.mpr ⟨inX4a w h, List.all_eq_true.mp inX4b w h⟩
theorem inX5a : ∀ w ∈ u_ws RX5 TX5 3, w ∈ lw_tbl := by decide +kernel
theorem inX5b : (u_ws RX5 TX5 3).all goodWord = true := by decide +kernel
theorem inX5 : ∀ w ∈ u_ws RX5 TX5 3, w ∈ TW := fun w h => List.mem_filter.mpr ⟨inX5a w h, List.all_eq_true.mp inX5b w h⟩
theorem inX6a : ∀ w ∈ u_ws RX6 TX6 8, w ∈ lw_tbl := by decide +kernel
theorem inX6b : (u_ws RX6 TX6 8).all goodWord = true := by decide +kernel
theorem inX6 : ∀ w ∈ u_ws RX6 TX6 8, w ∈ TW := fun w h => List.mem_filter.mpr ⟨inX6a w h, List.all_eq_true.mp inX6b w h⟩
theorem inX7a : ∀ w ∈ u_ws RX7 TX7 2, w ∈ lw_tbl := by decide +kernel
theorem inX7b : (u_ws RX7 TX7 2).all goodWord = true := by decide +kernel
theorem inX7 : ∀ w ∈ u_ws RX7 TX7 2, w ∈ TW := fun w h => List.mem_filter.mpr ⟨inX7a w h, List.all_eq_true.mp inX7b w h⟩
theorem inX8a : ∀ w ∈ u_ws RX8 TX8 2, w ∈ lw_tbl := by decide +kernel
theorem inX8b : (u_ws RX8 TX8 2).all goodWord = true := by decide +kernel
theorem inX8 : ∀ w ∈ u_ws RX8 TX8 2, w ∈ TW := fun w h => List.mem_filter.mpr ⟨inX8a w h, List.all_eq_true.mp inX8b w h⟩
theorem inX9a : ∀ w ∈ u_ws RX9 TX9 13, w ∈ lw_tbl := by decide +kernel
theorem inX9b : (u_ws RX9 TX9 13).all goodWord = true := by decide +kernel
theorem inX9 : ∀ w ∈ u_ws RX9 TX9 13, w ∈ TW := fun w h => List.mem_filter.mpr ⟨inX9a w h, List.all_eq_true.mp inX9b w h⟩
theorem inX10a : ∀ w ∈ u_ws RX10 TX10 41, w ∈ lw_tbl := by decide +kernel
theorem inX10b : (u_ws RX10 TX10 41).all goodWord = true := by decide +kernel
theorem inX10 : ∀ w ∈ u_ws RX10 TX10 41, w ∈ TW := fun w h => List.mem_filter.mpr ⟨inX10a w h, List.all_eq_true.mp inX10b w h⟩
