theorem dX9_choose_63 : decode cX9_choose 63 = .ok (.iload_n 2, 1) := by decide +kernel
theorem dX9_choose_64 : decode cX9_choose 64 = .ok (.invokevirtual 329, 3) := by decide +kernel
theorem dX9_choose_67 : decode cX9_choose 67 = .ok (.aload_n 0, 1) := by decide +kernel
theorem dX9_choose_68 : decode cX9_choose 68 = .ok (.aload_n 1, 1) := by decide +kernel
theorem dX9_choose_69 : decode cX9_choose 69 = .ok (.iconst 1, 1) := by decide +kernel
theorem dX9_choose_70 : decode cX9_choose 70 = .ok (.aload 5, 2) := by decide +kernel
theorem dX9_choose_72 : decode cX9_choose 72 = .ok (.iload_n 2, 1) := by decide +kernel
theorem dX9_choose_73 : decode cX9_choose 73 = .ok (.invokevirtual 329, 3) := by decide +kernel
theorem dX9_choose_76 : decode cX9_choose 76 = .ok (.return_, 1) := by decide +kernel
theorem dX9_move_0 : decode cX9_move 0 = .ok (.aload_n 0, 1) := by decide +kernel
theorem dX9_move_1 : decode cX9_move 1 = .ok (.aload_n 1, 1) := by decide +kernel
theorem dX9_move_2 : decode cX9_move 2 = .ok (.iload_n 2, 1) := by decide +kernel
theorem dX9_move_3 : decode cX9_move 3 = .ok (.invokevirtual 334, 3) := by decide +kernel
theorem dX9_move_6 : decode cX9_move 6 = .ok (.istore 4, 2) := by decide +kernel
theorem dX9_move_8 : decode cX9_move 8 = .ok (.iload 4, 2) := by decide +kernel
theorem dX9_move_10 : decode cX9_move 10 = .ok (.iconst (-1), 1) := by decide +kernel
theorem dX9_move_11 : decode cX9_move 11 = .ok (.if_icmp .ne 11, 3) := by decide +kernel
theorem dX9_move_14 : decode cX9_move 14 = .ok (.aload_n 0, 1) := by decide +kernel
theorem dX9_move_15 : decode cX9_move 15 = .ok (.iconst 2, 1) := by decide +kernel
theorem dX9_move_16 : decode cX9_move 16 = .ok (.putfield 108, 3) := by decide +kernel
theorem dX9_move_19 : decode cX9_move 19 = .ok (.goto 11, 3) := by decide +kernel
theorem dX9_move_22 : decode cX9_move 22 = .ok (.aload_n 0, 1) := by decide +kernel
theorem dX9_move_23 : decode cX9_move 23 = .ok (.aload_n 1, 1) := by decide +kernel
theorem dX9_move_24 : decode cX9_move 24 = .ok (.aload_n 3, 1) := by decide +kernel
theorem dX9_move_25 : decode cX9_move 25 = .ok (.iload 4, 2) := by decide +kernel
theorem dX9_move_27 : decode cX9_move 27 = .ok (.invokevirtual 282, 3) := by decide +kernel
theorem dX9_move_30 : decode cX9_move 30 = .ok (.return_, 1) := by decide +kernel
theorem dX9_contextBehind_0 : decode cX9_contextBehind 0 = .ok (.aload_n 1, 1) := by decide +kernel
theorem dX9_contextBehind_1 : decode cX9_contextBehind 1 = .ok (.getfield 286, 3) := by decide +kernel
theorem dX9_contextBehind_4 : decode cX9_contextBehind 4 = .ok (.tableswitch 60 8 10 #[28, 42, 51], 28) := by decide +kernel
theorem dX9_contextBehind_32 : decode cX9_contextBehind 32 = .ok (.aload_n 0, 1) := by decide +kernel
theorem dX9_contextBehind_33 : decode cX9_contextBehind 33 = .ok (.getfield 40, 3) := by decide +kernel
theorem dX9_contextBehind_36 : decode cX9_contextBehind 36 = .ok (.iload_n 2, 1) := by decide +kernel
theorem dX9_contextBehind_37 : decode cX9_contextBehind 37 = .ok (.aload_n 1, 1) := by decide +kernel
theorem dX9_contextBehind_38 : decode cX9_contextBehind 38 = .ok (.getfield 326, 3) := by decide +kernel
theorem dX9_contextBehind_41 : decode cX9_contextBehind 41 = .ok (.iconst 0, 1) := by decide +kernel
theorem dX9_contextBehind_42 : decode cX9_contextBehind 42 = .ok (.invokevirtual 338, 3) := by decide +kernel
theorem dX9_contextBehind_45 : decode cX9_contextBehind 45 = .ok (.ireturn, 1) := by decide +kernel
theorem dX9_contextBehind_46 : decode cX9_contextBehind 46 = .ok (.aload_n 0, 1) := by decide +kernel
theorem dX9_contextBehind_47 : decode cX9_contextBehind 47 = .ok (.getfield 40, 3) := by decide +kernel
theorem dX9_contextBehind_50 : decode cX9_contextBehind 50 = .ok (.iload_n 2, 1) := by decide +kernel
theorem dX9_contextBehind_51 : decode cX9_contextBehind 51 = .ok (.invokevirtual 342, 3) := by decide +kernel
theorem dX9_contextBehind_54 : decode cX9_contextBehind 54 = .ok (.ireturn, 1) := by decide +kernel
theorem dX9_contextBehind_55 : decode cX9_contextBehind 55 = .ok (.aload_n 0, 1) := by decide +kernel
theorem dX9_contextBehind_56 : decode cX9_contextBehind 56 = .ok (.getfield 40, 3) := by decide +kernel
theorem dX9_contextBehind_59 : decode cX9_contextBehind 59 = .ok (.iload_n 2, 1) := by decide +kernel
theorem dX9_contextBehind_60 : decode cX9_contextBehind 60 = .ok (.invokevirtual 346, 3) := by decide +kernel
theorem dX9_contextBehind_63 : decode cX9_contextBehind 63 = .ok (.ireturn, 1) := by decide +kernel
theorem dX9_contextBehind_64 : decode cX9_contextBehind 64 = .ok (.aload_n 0, 1) := by decide +kernel
theorem dX9_contextBehind_65 : decode cX9_contextBehind 65 = .ok (.getfield 40, 3) := by decide +kernel
theorem dX9_contextBehind_68 : decode cX9_contextBehind 68 = .ok (.iload_n 2, 1) := by decide +kernel
theorem dX9_contextBehind_69 : decode cX9_contextBehind 69 = .ok (.invokevirtual 349, 3) := by decide +kernel
theorem dX9_contextBehind_72 : decode cX9_contextBehind 72 = .ok (.ireturn, 1) := by decide +kernel
theorem dX9_enterCall_0 : decode cX9_enterCall 0 = .ok (.aload_n 0, 1) := by decide +kernel
theorem dX9_enterCall_1 : decode cX9_enterCall 1 = .ok (.aload_n 1, 1) := by decide +kernel
theorem dX9_enterCall_2 : decode cX9_enterCall 2 = .ok (.getfield 326, 3) := by decide +kernel
theorem dX9_enterCall_5 : decode cX9_enterCall 5 = .ok (.invokevirtual 93, 3) := by decide +kernel
theorem dX9_enterCall_8 : decode cX9_enterCall 8 = .ok (.astore 4, 2) := by decide +kernel
theorem dX9_enterCall_10 : decode cX9_enterCall 10 = .ok (.aload 4, 2) := by decide +kernel
theorem dX9_enterCall_12 : decode cX9_enterCall 12 = .ok (.ifnonnull 4, 3) := by decide +kernel
theorem dX9_enterCall_15 : decode cX9_enterCall 15 = .ok (.return_, 1) := by decide +kernel
theorem dX9_enterCall_16 : decode cX9_enterCall 16 = .ok (.aload_n 0, 1) := by decide +kernel
theorem dX9_enterCall_17 : decode cX9_enterCall 17 = .ok (.getfield 40, 3) := by decide +kernel
theorem dX9_enterCall_20 : decode cX9_enterCall 20 = .ok (.iload_n 2, 1) := by decide +kernel
theorem dX9_enterCall_21 : decode cX9_enterCall 21 = .ok (.iconst (-1), 1) := by decide +kernel
theorem dX9_enterCall_22 : decode cX9_enterCall 22 = .ok (.aload_n 1, 1) := by decide +kernel
theorem dX9_enterCall_23 : decode cX9_enterCall 23 = .ok (.getfield 165, 3) := by decide +kernel
theorem dX9_enterCall_26 : decode cX9_enterCall 26 = .ok (.isub, 1) := by decide +kernel
theorem dX9_enterCall_27 : decode cX9_enterCall 27 = .ok (.iconst 0, 1) := by decide +kernel
theorem dX9_enterCall_28 : decode cX9_enterCall 28 = .ok (.invokevirtual 338, 3) := by decide +kernel
theorem dX9_enterCall_31 : decode cX9_enterCall 31 = .ok (.istore 5, 2) := by decide +kernel
theorem dX9_enterCall_33 : decode cX9_enterCall 33 = .ok (.iload 5, 2) := by decide +kernel
theorem dX9_enterCall_35 : decode cX9_enterCall 35 = .ok (.iconst (-1), 1) := by decide +kernel
theorem dX9_enterCall_36 : decode cX9_enterCall 36 = .ok (.if_icmp .ne 11, 3) := by decide +kernel
theorem dX9_enterCall_39 : decode cX9_enterCall 39 = .ok (.aload_n 0, 1) := by decide +kernel
theorem dX9_enterCall_40 : decode cX9_enterCall 40 = .ok (.iconst 2, 1) := by decide +kernel
theorem dX9_enterCall_41 : decode cX9_enterCall 41 = .ok (.putfield 108, 3) := by decide +kernel
theorem dX9_enterCall_44 : decode cX9_enterCall 44 = .ok (.goto 13, 3) := by decide +kernel
theorem dX9_enterCall_47 : decode cX9_enterCall 47 = .ok (.aload_n 0, 1) := by decide +kernel
theorem dX9_enterCall_48 : decode cX9_enterCall 48 = .ok (.aload 4, 2) := by decide +kernel
theorem dX9_enterCall_50 : decode cX9_enterCall 50 = .ok (.iconst 0, 1) := by decide +kernel
theorem dX9_enterCall_51 : decode cX9_enterCall 51 = .ok (.aload_n 3, 1) := by decide +kernel
theorem dX9_enterCall_52 : decode cX9_enterCall 52 = .ok (.iload 5, 2) := by decide +kernel
theorem dX9_enterCall_54 : decode cX9_enterCall 54 = .ok (.invokevirtual 112, 3) := by decide +kernel
theorem dX9_enterCall_57 : decode cX9_enterCall 57 = .ok (.return_, 1) := by decide +kernel
theorem dX9_leaveCall_0 : decode cX9_leaveCall 0 = .ok (.aload_n 0, 1) := by decide +kernel
theorem dX9_leaveCall_1 : decode cX9_leaveCall 1 = .ok (.iconst (-1), 1) := by decide +kernel
theorem dX9_leaveCall_2 : decode cX9_leaveCall 2 = .ok (.aload_n 0, 1) := by decide +kernel
theorem dX9_leaveCall_3 : decode cX9_leaveCall 3 = .ok (.getfield 40, 3) := by decide +kernel
theorem dX9_leaveCall_6 : decode cX9_leaveCall 6 = .ok (.iload_n 1, 1) := by decide +kernel
theorem dX9_leaveCall_7 : decode cX9_leaveCall 7 = .ok (.invokevirtual 352, 3) := by decide +kernel
theorem dX9_leaveCall_10 : decode cX9_leaveCall 10 = .ok (.isub, 1) := by decide +kernel
theorem dX9_leaveCall_11 : decode cX9_leaveCall 11 = .ok (.invokevirtual 93, 3) := by decide +kernel
theorem dX9_leaveCall_14 : decode cX9_leaveCall 14 = .ok (.astore_n 3, 1) := by decide +kernel
theorem dX9_leaveCall_15 : decode cX9_leaveCall 15 = .ok (.aload_n 3, 1) := by decide +kernel
theorem dX9_leaveCall_16 : decode cX9_leaveCall 16 = .ok (.ifnull 17, 3) := by decide +kernel
theorem dX9_leaveCall_19 : decode cX9_leaveCall 19 = .ok (.aload_n 0, 1) := by decide +kernel
theorem dX9_leaveCall_20 : decode cX9_leaveCall 20 = .ok (.aload_n 3, 1) := by decide +kernel
theorem dX9_leaveCall_21 : decode cX9_leaveCall 21 = .ok (.aload_n 2, 1) := by decide +kernel
theorem dX9_leaveCall_22 : decode cX9_leaveCall 22 = .ok (.aload_n 0, 1) := by decide +kernel
theorem dX9_leaveCall_23 : decode cX9_leaveCall 23 = .ok (.getfield 40, 3) := by decide +kernel
theorem dX9_leaveCall_26 : decode cX9_leaveCall 26 = .ok (.iload_n 1, 1) := by decide +kernel
theorem dX9_leaveCall_27 : decode cX9_leaveCall 27 = .ok (.invokevirtual 349, 3) := by decide +kernel
theorem dX9_leaveCall_30 : decode cX9_leaveCall 30 = .ok (.invokevirtual 282, 3) := by decide +kernel
theorem dX9_leaveCall_33 : decode cX9_leaveCall 33 = .ok (.return_, 1) := by decide +kernel
theorem dX9_makeArray_0 : decode cX9_makeArray 0 = .ok (.lload_n 3, 1) := by decide +kernel
theorem dX9_makeArray_1 : decode cX9_makeArray 1 = .ok (.lconst 0, 1) := by decide +kernel
theorem dX9_makeArray_2 : decode cX9_makeArray 2 = .ok (.lcmp, 1) := by decide +kernel
theorem dX9_makeArray_3 : decode cX9_makeArray 3 = .ok (.ifCond .lt 11, 3) := by decide +kernel
theorem dX9_makeArray_6 : decode cX9_makeArray 6 = .ok (.lload_n 3, 1) := by decide +kernel
theorem dX9_makeArray_7 : decode cX9_makeArray 7 = .ok (.ldc2_w 355, 3) := by decide +kernel
theorem dX9_makeArray_10 : decode cX9_makeArray 10 = .ok (.lcmp, 1) := by decide +kernel
theorem dX9_makeArray_11 : decode cX9_makeArray 11 = .ok (.ifCond .le 21, 3) := by decide +kernel
theorem dX9_makeArray_14 : decode cX9_makeArray 14 = .ok (.aload_n 0, 1) := by decide +kernel
theorem dX9_makeArray_15 : decode cX9_makeArray 15 = .ok (.aload_n 1, 1) := by decide +kernel
theorem dX9_makeArray_16 : decode cX9_makeArray 16 = .ok (.new 7, 3) := by decide +kernel
theorem dX9_makeArray_19 : decode cX9_makeArray 19 = .ok (.dup, 1) := by decide +kernel
theorem dX9_makeArray_20 : decode cX9_makeArray 20 = .ok (.iconst 1, 1) := by decide +kernel
theorem dX9_makeArray_21 : decode cX9_makeArray 21 = .ok (.ldc2_w 357, 3) := by decide +kernel
theorem dX9_makeArray_24 : decode cX9_makeArray 24 = .ok (.invokespecial 11, 3) := by decide +kernel
theorem dX9_makeArray_27 : decode cX9_makeArray 27 = .ok (.iload_n 2, 1) := by decide +kernel
theorem dX9_makeArray_28 : decode cX9_makeArray 28 = .ok (.invokevirtual 282, 3) := by decide +kernel
theorem dX9_makeArray_31 : decode cX9_makeArray 31 = .ok (.return_, 1) := by decide +kernel
theorem dX9_makeArray_32 : decode cX9_makeArray 32 = .ok (.aload_n 0, 1) := by decide +kernel
theorem dX9_makeArray_33 : decode cX9_makeArray 33 = .ok (.getfield 47, 3) := by decide +kernel
theorem dX9_makeArray_36 : decode cX9_makeArray 36 = .ok (.lload_n 3, 1) := by decide +kernel
theorem dX9_makeArray_37 : decode cX9_makeArray 37 = .ok (.l2i, 1) := by decide +kernel
theorem dX9_makeArray_38 : decode cX9_makeArray 38 = .ok (.invokevirtual 359, 3) := by decide +kernel
theorem dX9_makeArray_41 : decode cX9_makeArray 41 = .ok (.istore 5, 2) := by decide +kernel
theorem dX9_makeArray_43 : decode cX9_makeArray 43 = .ok (.iload 5, 2) := by decide +kernel
theorem dX9_makeArray_45 : decode cX9_makeArray 45 = .ok (.iconst (-1), 1) := by decide +kernel
theorem dX9_makeArray_46 : decode cX9_makeArray 46 = .ok (.if_icmp .ne 11, 3) := by decide +kernel
theorem dX9_makeArray_49 : decode cX9_makeArray 49 = .ok (.aload_n 0, 1) := by decide +kernel
theorem dX9_makeArray_50 : decode cX9_makeArray 50 = .ok (.iconst 2, 1) := by decide +kernel
theorem dX9_makeArray_51 : decode cX9_makeArray 51 = .ok (.putfield 108, 3) := by decide +kernel
theorem dX9_makeArray_54 : decode cX9_makeArray 54 = .ok (.goto 20, 3) := by decide +kernel
theorem dX9_makeArray_57 : decode cX9_makeArray 57 = .ok (.aload_n 0, 1) := by decide +kernel
theorem dX9_makeArray_58 : decode cX9_makeArray 58 = .ok (.aload_n 1, 1) := by decide +kernel
theorem dX9_makeArray_59 : decode cX9_makeArray 59 = .ok (.new 7, 3) := by decide +kernel
theorem dX9_makeArray_62 : decode cX9_makeArray 62 = .ok (.dup, 1) := by decide +kernel
theorem dX9_makeArray_63 : decode cX9_makeArray 63 = .ok (.iconst 2, 1) := by decide +kernel
theorem dX9_makeArray_64 : decode cX9_makeArray 64 = .ok (.iload 5, 2) := by decide +kernel
theorem dX9_makeArray_66 : decode cX9_makeArray 66 = .ok (.i2l, 1) := by decide +kernel
theorem dX9_makeArray_67 : decode cX9_makeArray 67 = .ok (.invokespecial 11, 3) := by decide +kernel
theorem dX9_makeArray_70 : decode cX9_makeArray 70 = .ok (.iload_n 2, 1) := by decide +kernel
theorem dX9_makeArray_71 : decode cX9_makeArray 71 = .ok (.invokevirtual 282, 3) := by decide +kernel
theorem dX9_makeArray_74 : decode cX9_makeArray 74 = .ok (.return_, 1) := by decide +kernel
theorem dX9_fetch_0 : decode cX9_fetch 0 = .ok (.aload_n 3, 1) := by decide +kernel
theorem dX9_fetch_1 : decode cX9_fetch 1 = .ok (.ifnonnull 23, 3) := by decide +kernel
theorem dX9_fetch_4 : decode cX9_fetch 4 = .ok (.aload_n 0, 1) := by decide +kernel
theorem dX9_fetch_5 : decode cX9_fetch 5 = .ok (.aload_n 1, 1) := by decide +kernel
theorem dX9_fetch_6 : decode cX9_fetch 6 = .ok (.new 7, 3) := by decide +kernel
theorem dX9_fetch_9 : decode cX9_fetch 9 = .ok (.dup, 1) := by decide +kernel
theorem dX9_fetch_10 : decode cX9_fetch 10 = .ok (.iconst 1, 1) := by decide +kernel
theorem dX9_fetch_11 : decode cX9_fetch 11 = .ok (.ldc2_w 361, 3) := by decide +kernel
theorem dX9_fetch_14 : decode cX9_fetch 14 = .ok (.invokespecial 11, 3) := by decide +kernel
theorem dX9_fetch_17 : decode cX9_fetch 17 = .ok (.iload_n 2, 1) := by decide +kernel
theorem dX9_fetch_18 : decode cX9_fetch 18 = .ok (.invokevirtual 282, 3) := by decide +kernel
theorem dX9_fetch_21 : decode cX9_fetch 21 = .ok (.goto 50, 3) := by decide +kernel
theorem dX9_fetch_24 : decode cX9_fetch 24 = .ok (.aload_n 3, 1) := by decide +kernel
theorem dX9_fetch_25 : decode cX9_fetch 25 = .ok (.invokevirtual 363, 3) := by decide +kernel
theorem dX9_fetch_28 : decode cX9_fetch 28 = .ok (.ifCond .eq 16, 3) := by decide +kernel
theorem dX9_fetch_31 : decode cX9_fetch 31 = .ok (.aload_n 0, 1) := by decide +kernel
theorem dX9_fetch_32 : decode cX9_fetch 32 = .ok (.aload_n 1, 1) := by decide +kernel
theorem dX9_fetch_33 : decode cX9_fetch 33 = .ok (.aload_n 3, 1) := by decide +kernel
theorem dX9_fetch_34 : decode cX9_fetch 34 = .ok (.getfield 208, 3) := by decide +kernel
theorem dX9_fetch_37 : decode cX9_fetch 37 = .ok (.iload_n 2, 1) := by decide +kernel
theorem dX9_fetch_38 : decode cX9_fetch 38 = .ok (.invokevirtual 282, 3) := by decide +kernel
theorem dX9_fetch_41 : decode cX9_fetch 41 = .ok (.goto 30, 3) := by decide +kernel
theorem dX9_fetch_44 : decode cX9_fetch 44 = .ok (.aload_n 3, 1) := by decide +kernel
theorem dX9_fetch_45 : decode cX9_fetch 45 = .ok (.getfield 211, 3) := by decide +kernel
theorem dX9_fetch_48 : decode cX9_fetch 48 = .ok (.aload_n 0, 1) := by decide +kernel
theorem dX9_fetch_49 : decode cX9_fetch 49 = .ok (.getfield 30, 3) := by decide +kernel
theorem dX9_fetch_52 : decode cX9_fetch 52 = .ok (.aload_n 1, 1) := by decide +kernel
theorem dX9_fetch_53 : decode cX9_fetch 53 = .ok (.iload_n 2, 1) := by decide +kernel
theorem dX9_fetch_54 : decode cX9_fetch 54 = .ok (.invokevirtual 230, 3) := by decide +kernel
theorem dX9_fetch_57 : decode cX9_fetch 57 = .ok (.invokevirtual 89, 3) := by decide +kernel
theorem dX9_fetch_60 : decode cX9_fetch 60 = .ok (.pop, 1) := by decide +kernel
theorem dX9_fetch_61 : decode cX9_fetch 61 = .ok (.aload_n 0, 1) := by decide +kernel
theorem dX9_fetch_62 : decode cX9_fetch 62 = .ok (.dup, 1) := by decide +kernel
theorem dX9_fetch_63 : decode cX9_fetch 63 = .ok (.getfield 158, 3) := by decide +kernel
theorem dX9_fetch_66 : decode cX9_fetch 66 = .ok (.iconst 1, 1) := by decide +kernel
theorem dX9_fetch_67 : decode cX9_fetch 67 = .ok (.iadd, 1) := by decide +kernel
theorem dX9_fetch_68 : decode cX9_fetch 68 = .ok (.putfield 158, 3) := by decide +kernel
theorem dX9_fetch_71 : decode cX9_fetch 71 = .ok (.return_, 1) := by decide +kernel
theorem dX9_store_0 : decode cX9_store 0 = .ok (.aload_n 3, 1) := by decide +kernel
theorem dX9_store_1 : decode cX9_store 1 = .ok (.ifnonnull 21, 3) := by decide +kernel
theorem dX9_store_4 : decode cX9_store 4 = .ok (.aload_n 0, 1) := by decide +kernel
theorem dX9_store_5 : decode cX9_store 5 = .ok (.aload_n 1, 1) := by decide +kernel
theorem dX9_store_6 : decode cX9_store 6 = .ok (.new 7, 3) := by decide +kernel
theorem dX9_store_9 : decode cX9_store 9 = .ok (.dup, 1) := by decide +kernel
theorem dX9_store_10 : decode cX9_store 10 = .ok (.iconst 1, 1) := by decide +kernel
theorem dX9_store_11 : decode cX9_store 11 = .ok (.ldc2_w 361, 3) := by decide +kernel
theorem dX9_store_14 : decode cX9_store 14 = .ok (.invokespecial 11, 3) := by decide +kernel
theorem dX9_store_17 : decode cX9_store 17 = .ok (.iload_n 2, 1) := by decide +kernel
theorem dX9_store_18 : decode cX9_store 18 = .ok (.invokevirtual 282, 3) := by decide +kernel
theorem dX9_store_21 : decode cX9_store 21 = .ok (.return_, 1) := by decide +kernel
theorem dX9_store_22 : decode cX9_store 22 = .ok (.aload_n 3, 1) := by decide +kernel
theorem dX9_store_23 : decode cX9_store 23 = .ok (.invokevirtual 363, 3) := by decide +kernel
theorem dX9_store_26 : decode cX9_store 26 = .ok (.ifCond .eq 9, 3) := by decide +kernel
theorem dX9_store_29 : decode cX9_store 29 = .ok (.aload_n 0, 1) := by decide +kernel
theorem dX9_store_30 : decode cX9_store 30 = .ok (.iconst 3, 1) := by decide +kernel
theorem dX9_store_31 : decode cX9_store 31 = .ok (.putfield 108, 3) := by decide +kernel
theorem dX9_store_34 : decode cX9_store 34 = .ok (.return_, 1) := by decide +kernel
theorem dX9_store_35 : decode cX9_store 35 = .ok (.aload_n 3, 1) := by decide +kernel
theorem dX9_store_36 : decode cX9_store 36 = .ok (.aload 4, 2) := by decide +kernel
theorem dX9_store_38 : decode cX9_store 38 = .ok (.putfield 208, 3) := by decide +kernel
theorem dX9_store_41 : decode cX9_store 41 = .ok (.aload_n 0, 1) := by decide +kernel
theorem dX9_store_42 : decode cX9_store 42 = .ok (.aload_n 1, 1) := by decide +kernel
theorem dX9_store_43 : decode cX9_store 43 = .ok (.aload 4, 2) := by decide +kernel
theorem dX9_store_45 : decode cX9_store 45 = .ok (.iload_n 2, 1) := by decide +kernel
theorem dX9_store_46 : decode cX9_store 46 = .ok (.invokevirtual 282, 3) := by decide +kernel
theorem dX9_store_49 : decode cX9_store 49 = .ok (.aload_n 3, 1) := by decide +kernel
theorem dX9_store_50 : decode cX9_store 50 = .ok (.getfield 211, 3) := by decide +kernel
theorem dX9_store_53 : decode cX9_store 53 = .ok (.invokevirtual 65, 3) := by decide +kernel
theorem dX9_store_56 : decode cX9_store 56 = .ok (.istore 5, 2) := by decide +kernel
theorem dX9_store_58 : decode cX9_store 58 = .ok (.iload 5, 2) := by decide +kernel
theorem dX9_store_60 : decode cX9_store 60 = .ok (.ifCond .le 72, 3) := by decide +kernel
theorem dX9_store_63 : decode cX9_store 63 = .ok (.aload_n 0, 1) := by decide +kernel
theorem dX9_store_64 : decode cX9_store 64 = .ok (.getfield 108, 3) := by decide +kernel
theorem dX9_store_67 : decode cX9_store 67 = .ok (.ifCond .ne 65, 3) := by decide +kernel
theorem dX9_store_70 : decode cX9_store 70 = .ok (.aload_n 3, 1) := by decide +kernel
theorem dX9_store_71 : decode cX9_store 71 = .ok (.getfield 211, 3) := by decide +kernel
theorem dX9_store_74 : decode cX9_store 74 = .ok (.iconst 0, 1) := by decide +kernel
theorem dX9_store_75 : decode cX9_store 75 = .ok (.invokevirtual 130, 3) := by decide +kernel
theorem dX9_store_78 : decode cX9_store 78 = .ok (.checkcast 134, 3) := by decide +kernel
theorem dX9_store_81 : decode cX9_store 81 = .ok (.astore 6, 2) := by decide +kernel
theorem dX9_store_83 : decode cX9_store 83 = .ok (.aload 6, 2) := by decide +kernel
theorem dX9_store_85 : decode cX9_store 85 = .ok (.getfield 161, 3) := by decide +kernel
theorem dX9_store_88 : decode cX9_store 88 = .ok (.astore 7, 2) := by decide +kernel
theorem dX9_store_90 : decode cX9_store 90 = .ok (.aload 6, 2) := by decide +kernel
theorem dX9_store_92 : decode cX9_store 92 = .ok (.getfield 168, 3) := by decide +kernel
theorem dX9_store_95 : decode cX9_store 95 = .ok (.istore 8, 2) := by decide +kernel
theorem dX9_store_97 : decode cX9_store 97 = .ok (.aload_n 0, 1) := by decide +kernel
theorem dX9_store_98 : decode cX9_store 98 = .ok (.dup, 1) := by decide +kernel
theorem dX9_store_99 : decode cX9_store 99 = .ok (.getfield 158, 3) := by decide +kernel
theorem dX9_store_102 : decode cX9_store 102 = .ok (.iconst 1, 1) := by decide +kernel
theorem dX9_store_103 : decode cX9_store 103 = .ok (.isub, 1) := by decide +kernel
theorem dX9_store_104 : decode cX9_store 104 = .ok (.putfield 158, 3) := by decide +kernel
theorem dX9_store_107 : decode cX9_store 107 = .ok (.aload_n 0, 1) := by decide +kernel
theorem dX9_store_108 : decode cX9_store 108 = .ok (.getfield 30, 3) := by decide +kernel
theorem dX9_store_111 : decode cX9_store 111 = .ok (.aload 6, 2) := by decide +kernel
theorem dX9_store_113 : decode cX9_store 113 = .ok (.invokevirtual 263, 3) := by decide +kernel
theorem dX9_store_116 : decode cX9_store 116 = .ok (.aload_n 0, 1) := by decide +kernel
theorem dX9_store_117 : decode cX9_store 117 = .ok (.aload 7, 2) := by decide +kernel
theorem dX9_store_119 : decode cX9_store 119 = .ok (.aload 4, 2) := by decide +kernel
theorem dX9_store_121 : decode cX9_store 121 = .ok (.iload 8, 2) := by decide +kernel
theorem dX9_store_123 : decode cX9_store 123 = .ok (.invokevirtual 282, 3) := by decide +kernel
theorem dX9_store_126 : decode cX9_store 126 = .ok (.iinc 5 (-1), 3) := by decide +kernel
theorem dX9_store_129 : decode cX9_store 129 = .ok (.goto (-71), 3) := by decide +kernel
theorem dX9_store_132 : decode cX9_store 132 = .ok (.return_, 1) := by decide +kernel
theorem dX10_init_0 : decode cX10_init 0 = .ok (.aload_n 0, 1) := by decide +kernel
theorem dX10_init_1 : decode cX10_init 1 = .ok (.invokespecial 1, 3) := by decide +kernel
theorem dX10_init_4 : decode cX10_init 4 = .ok (.aload_n 0, 1) := by decide +kernel
theorem dX10_init_5 : decode cX10_init 5 = .ok (.bipush 40, 2) := by decide +kernel
theorem dX10_init_7 : decode cX10_init 7 = .ok (.newarray .int, 2) := by decide +kernel
theorem dX10_init_9 : decode cX10_init 9 = .ok (.putfield 7, 3) := by decide +kernel
theorem dX10_init_12 : decode cX10_init 12 = .ok (.aload_n 0, 1) := by decide +kernel
theorem dX10_init_13 : decode cX10_init 13 = .ok (.bipush 40, 2) := by decide +kernel
theorem dX10_init_15 : decode cX10_init 15 = .ok (.newarray .int, 2) := by decide +kernel
theorem dX10_init_17 : decode cX10_init 17 = .ok (.putfield 13, 3) := by decide +kernel
theorem dX10_init_20 : decode cX10_init 20 = .ok (.aload_n 0, 1) := by decide +kernel
theorem dX10_init_21 : decode cX10_init 21 = .ok (.bipush 40, 2) := by decide +kernel
theorem dX10_init_23 : decode cX10_init 23 = .ok (.newarray .int, 2) := by decide +kernel
theorem dX10_init_25 : decode cX10_init 25 = .ok (.putfield 16, 3) := by decide +kernel
theorem dX10_init_28 : decode cX10_init 28 = .ok (.aload_n 0, 1) := by decide +kernel
theorem dX10_init_29 : decode cX10_init 29 = .ok (.sipush 240, 3) := by decide +kernel
theorem dX10_init_32 : decode cX10_init 32 = .ok (.newarray .int, 2) := by decide +kernel
theorem dX10_init_34 : decode cX10_init 34 = .ok (.putfield 19, 3) := by decide +kernel
theorem dX10_init_37 : decode cX10_init 37 = .ok (.aload_n 0, 1) := by decide +kernel
theorem dX10_init_38 : decode cX10_init 38 = .ok (.sipush 240, 3) := by decide +kernel
theorem dX10_init_41 : decode cX10_init 41 = .ok (.newarray .int, 2) := by decide +kernel
theorem dX10_init_43 : decode cX10_init 43 = .ok (.putfield 22, 3) := by decide +kernel
theorem dX10_init_46 : decode cX10_init 46 = .ok (.aload_n 0, 1) := by decide +kernel
theorem dX10_init_47 : decode cX10_init 47 = .ok (.sipush 240, 3) := by decide +kernel
theorem dX10_init_50 : decode cX10_init 50 = .ok (.newarray .int, 2) := by decide +kernel
theorem dX10_init_52 : decode cX10_init 52 = .ok (.putfield 25, 3) := by decide +kernel
theorem dX10_init_55 : decode cX10_init 55 = .ok (.aload_n 0, 1) := by decide +kernel
theorem dX10_init_56 : decode cX10_init 56 = .ok (.iconst 1, 1) := by decide +kernel
theorem dX10_init_57 : decode cX10_init 57 = .ok (.putfield 28, 3) := by decide +kernel
theorem dX10_init_60 : decode cX10_init 60 = .ok (.aload_n 0, 1) := by decide +kernel
theorem dX10_init_61 : decode cX10_init 61 = .ok (.sipush 151, 3) := by decide +kernel
theorem dX10_init_64 : decode cX10_init 64 = .ok (.newarray .int, 2) := by decide +kernel
theorem dX10_init_66 : decode cX10_init 66 = .ok (.putfield 32, 3) := by decide +kernel
theorem dX10_init_69 : decode cX10_init 69 = .ok (.aload_n 0, 1) := by decide +kernel
theorem dX10_init_70 : decode cX10_init 70 = .ok (.sipush 151, 3) := by decide +kernel
theorem dX10_init_73 : decode cX10_init 73 = .ok (.newarray .int, 2) := by decide +kernel
theorem dX10_init_75 : decode cX10_init 75 = .ok (.putfield 35, 3) := by decide +kernel
theorem dX10_init_78 : decode cX10_init 78 = .ok (.aload_n 0, 1) := by decide +kernel
theorem dX10_init_79 : decode cX10_init 79 = .ok (.sipush 151, 3) := by decide +kernel
theorem dX10_init_82 : decode cX10_init 82 = .ok (.newarray .int, 2) := by decide +kernel
theorem dX10_init_84 : decode cX10_init 84 = .ok (.putfield 38, 3) := by decide +kernel
theorem dX10_init_87 : decode cX10_init 87 = .ok (.aload_n 0, 1) := by decide +kernel
theorem dX10_init_88 : decode cX10_init 88 = .ok (.bipush 40, 2) := by decide +kernel
theorem dX10_init_90 : decode cX10_init 90 = .ok (.newarray .int, 2) := by decide +kernel
theorem dX10_init_92 : decode cX10_init 92 = .ok (.putfield 41, 3) := by decide +kernel
theorem dX10_init_95 : decode cX10_init 95 = .ok (.aload_n 0, 1) := by decide +kernel
theorem dX10_init_96 : decode cX10_init 96 = .ok (.sipush 320, 3) := by decide +kernel
theorem dX10_init_99 : decode cX10_init 99 = .ok (.newarray .int, 2) := by decide +kernel
theorem dX10_init_101 : decode cX10_init 101 = .ok (.putfield 44, 3) := by decide +kernel
theorem dX10_init_104 : decode cX10_init 104 = .ok (.aload_n 0, 1) := by decide +kernel
theorem dX10_init_105 : decode cX10_init 105 = .ok (.sipush 320, 3) := by decide +kernel
theorem dX10_init_108 : decode cX10_init 108 = .ok (.newarray .long, 2) := by decide +kernel
theorem dX10_init_110 : decode cX10_init 110 = .ok (.putfield 47, 3) := by decide +kernel
theorem dX10_init_113 : decode cX10_init 113 = .ok (.aload_n 0, 1) := by decide +kernel
theorem dX10_init_114 : decode cX10_init 114 = .ok (.sipush 302, 3) := by decide +kernel
theorem dX10_init_117 : decode cX10_init 117 = .ok (.newarray .int, 2) := by decide +kernel
theorem dX10_init_119 : decode cX10_init 119 = .ok (.putfield 51, 3) := by decide +kernel
theorem dX10_init_122 : decode cX10_init 122 = .ok (.aload_n 0, 1) := by decide +kernel
theorem dX10_init_123 : decode cX10_init 123 = .ok (.sipush 302, 3) := by decide +kernel
theorem dX10_init_126 : decode cX10_init 126 = .ok (.newarray .int, 2) := by decide +kernel
theorem dX10_init_128 : decode cX10_init 128 = .ok (.putfield 54, 3) := by decide +kernel
theorem dX10_init_131 : decode cX10_init 131 = .ok (.aload_n 0, 1) := by decide +kernel
theorem dX10_init_132 : decode cX10_init 132 = .ok (.sipush 302, 3) := by decide +kernel
theorem dX10_init_135 : decode cX10_init 135 = .ok (.newarray .int, 2) := by decide +kernel
theorem dX10_init_137 : decode cX10_init 137 = .ok (.putfield 57, 3) := by decide +kernel
theorem dX10_init_140 : decode cX10_init 140 = .ok (.aload_n 0, 1) := by decide +kernel
theorem dX10_init_141 : decode cX10_init 141 = .ok (.sipush 302, 3) := by decide +kernel
theorem dX10_init_144 : decode cX10_init 144 = .ok (.newarray .int, 2) := by decide +kernel
theorem dX10_init_146 : decode cX10_init 146 = .ok (.putfield 60, 3) := by decide +kernel
theorem dX10_init_149 : decode cX10_init 149 = .ok (.aload_n 0, 1) := by decide +kernel
theorem dX10_init_150 : decode cX10_init 150 = .ok (.sipush 302, 3) := by decide +kernel
theorem dX10_init_153 : decode cX10_init 153 = .ok (.newarray .long, 2) := by decide +kernel
theorem dX10_init_155 : decode cX10_init 155 = .ok (.putfield 63, 3) := by decide +kernel
theorem dX10_init_158 : decode cX10_init 158 = .ok (.aload_n 0, 1) := by decide +kernel
theorem dX10_init_159 : decode cX10_init 159 = .ok (.sipush 302, 3) := by decide +kernel
theorem dX10_init_162 : decode cX10_init 162 = .ok (.newarray .int, 2) := by decide +kernel
theorem dX10_init_164 : decode cX10_init 164 = .ok (.putfield 66, 3) := by decide +kernel
theorem dX10_init_167 : decode cX10_init 167 = .ok (.aload_n 0, 1) := by decide +kernel
theorem dX10_init_168 : decode cX10_init 168 = .ok (.sipush 302, 3) := by decide +kernel
theorem dX10_init_171 : decode cX10_init 171 = .ok (.newarray .int, 2) := by decide +kernel
theorem dX10_init_173 : decode cX10_init 173 = .ok (.putfield 69, 3) := by decide +kernel
theorem dX10_init_176 : decode cX10_init 176 = .ok (.aload_n 0, 1) := by decide +kernel
theorem dX10_init_177 : decode cX10_init 177 = .ok (.sipush 906, 3) := by decide +kernel
theorem dX10_init_180 : decode cX10_init 180 = .ok (.newarray .int, 2) := by decide +kernel
theorem dX10_init_182 : decode cX10_init 182 = .ok (.putfield 72, 3) := by decide +kernel
theorem dX10_init_185 : decode cX10_init 185 = .ok (.aload_n 0, 1) := by decide +kernel
theorem dX10_init_186 : decode cX10_init 186 = .ok (.sipush 906, 3) := by decide +kernel
theorem dX10_init_189 : decode cX10_init 189 = .ok (.newarray .long, 2) := by decide +kernel
theorem dX10_init_191 : decode cX10_init 191 = .ok (.putfield 75, 3) := by decide +kernel
theorem dX10_init_194 : decode cX10_init 194 = .ok (.aload_n 0, 1) := by decide +kernel
theorem dX10_init_195 : decode cX10_init 195 = .ok (.sipush 302, 3) := by decide +kernel
theorem dX10_init_198 : decode cX10_init 198 = .ok (.newarray .int, 2) := by decide +kernel
theorem dX10_init_200 : decode cX10_init 200 = .ok (.putfield 78, 3) := by decide +kernel
theorem dX10_init_203 : decode cX10_init 203 = .ok (.aload_n 0, 1) := by decide +kernel
theorem dX10_init_204 : decode cX10_init 204 = .ok (.sipush 302, 3) := by decide +kernel
theorem dX10_init_207 : decode cX10_init 207 = .ok (.newarray .int, 2) := by decide +kernel
theorem dX10_init_209 : decode cX10_init 209 = .ok (.putfield 81, 3) := by decide +kernel
theorem dX10_init_212 : decode cX10_init 212 = .ok (.aload_n 0, 1) := by decide +kernel
theorem dX10_init_213 : decode cX10_init 213 = .ok (.sipush 302, 3) := by decide +kernel
theorem dX10_init_216 : decode cX10_init 216 = .ok (.newarray .int, 2) := by decide +kernel
theorem dX10_init_218 : decode cX10_init 218 = .ok (.putfield 84, 3) := by decide +kernel
theorem dX10_init_221 : decode cX10_init 221 = .ok (.aload_n 0, 1) := by decide +kernel
theorem dX10_init_222 : decode cX10_init 222 = .ok (.sipush 5001, 3) := by decide +kernel
theorem dX10_init_225 : decode cX10_init 225 = .ok (.newarray .int, 2) := by decide +kernel
theorem dX10_init_227 : decode cX10_init 227 = .ok (.putfield 87, 3) := by decide +kernel
theorem dX10_init_230 : decode cX10_init 230 = .ok (.aload_n 0, 1) := by decide +kernel
theorem dX10_init_231 : decode cX10_init 231 = .ok (.sipush 5001, 3) := by decide +kernel
theorem dX10_init_234 : decode cX10_init 234 = .ok (.newarray .long, 2) := by decide +kernel
theorem dX10_init_236 : decode cX10_init 236 = .ok (.putfield 90, 3) := by decide +kernel
theorem dX10_init_239 : decode cX10_init 239 = .ok (.aload_n 0, 1) := by decide +kernel
theorem dX10_init_240 : decode cX10_init 240 = .ok (.sipush 5001, 3) := by decide +kernel
theorem dX10_init_243 : decode cX10_init 243 = .ok (.newarray .int, 2) := by decide +kernel
theorem dX10_init_245 : decode cX10_init 245 = .ok (.putfield 93, 3) := by decide +kernel
theorem dX10_init_248 : decode cX10_init 248 = .ok (.aload_n 0, 1) := by decide +kernel
theorem dX10_init_249 : decode cX10_init 249 = .ok (.iconst 3, 1) := by decide +kernel
theorem dX10_init_250 : decode cX10_init 250 = .ok (.newarray .int, 2) := by decide +kernel
theorem dX10_init_252 : decode cX10_init 252 = .ok (.putfield 96, 3) := by decide +kernel
theorem dX10_init_255 : decode cX10_init 255 = .ok (.aload_n 0, 1) := by decide +kernel
theorem dX10_init_256 : decode cX10_init 256 = .ok (.iconst 3, 1) := by decide +kernel
theorem dX10_init_257 : decode cX10_init 257 = .ok (.newarray .long, 2) := by decide +kernel
theorem dX10_init_259 : decode cX10_init 259 = .ok (.putfield 99, 3) := by decide +kernel
theorem dX10_init_262 : decode cX10_init 262 = .ok (.aload_n 0, 1) := by decide +kernel
theorem dX10_init_263 : decode cX10_init 263 = .ok (.getfield 32, 3) := by decide +kernel
theorem dX10_init_266 : decode cX10_init 266 = .ok (.iconst 0, 1) := by decide +kernel
theorem dX10_init_267 : decode cX10_init 267 = .ok (.iconst (-1), 1) := by decide +kernel
theorem dX10_init_268 : decode cX10_init 268 = .ok (.iastore, 1) := by decide +kernel
theorem dX10_init_269 : decode cX10_init 269 = .ok (.return_, 1) := by decide +kernel
theorem dX10_thrown_0 : decode cX10_thrown 0 = .ok (.aload_n 0, 1) := by decide +kernel
theorem dX10_thrown_1 : decode cX10_thrown 1 = .ok (.getfield 102, 3) := by decide +kernel
theorem dX10_thrown_4 : decode cX10_thrown 4 = .ok (.ireturn, 1) := by decide +kernel
theorem dX10_raise_0 : decode cX10_raise 0 = .ok (.aload_n 0, 1) := by decide +kernel
theorem dX10_raise_1 : decode cX10_raise 1 = .ok (.iload_n 1, 1) := by decide +kernel
theorem dX10_raise_2 : decode cX10_raise 2 = .ok (.putfield 102, 3) := by decide +kernel
theorem dX10_raise_5 : decode cX10_raise 5 = .ok (.iconst 0, 1) := by decide +kernel
theorem dX10_raise_6 : decode cX10_raise 6 = .ok (.ireturn, 1) := by decide +kernel
theorem dX10_ports_0 : decode cX10_ports 0 = .ok (.iload_n 0, 1) := by decide +kernel
theorem dX10_ports_1 : decode cX10_ports 1 = .ok (.iconst 1, 1) := by decide +kernel
theorem dX10_ports_2 : decode cX10_ports 2 = .ok (.if_icmp .lt 8, 3) := by decide +kernel
theorem dX10_ports_5 : decode cX10_ports 5 = .ok (.iload_n 0, 1) := by decide +kernel
theorem dX10_ports_6 : decode cX10_ports 6 = .ok (.iconst 5, 1) := by decide +kernel
theorem dX10_ports_7 : decode cX10_ports 7 = .ok (.if_icmp .le 15, 3) := by decide +kernel
theorem dX10_ports_10 : decode cX10_ports 10 = .ok (.iload_n 0, 1) := by decide +kernel
theorem dX10_ports_11 : decode cX10_ports 11 = .ok (.bipush 7, 2) := by decide +kernel
theorem dX10_ports_13 : decode cX10_ports 13 = .ok (.if_icmp .eq 9, 3) := by decide +kernel
theorem dX10_ports_16 : decode cX10_ports 16 = .ok (.iload_n 0, 1) := by decide +kernel
theorem dX10_ports_17 : decode cX10_ports 17 = .ok (.bipush 15, 2) := by decide +kernel
theorem dX10_ports_19 : decode cX10_ports 19 = .ok (.if_icmp .ne 7, 3) := by decide +kernel
theorem dX10_ports_22 : decode cX10_ports 22 = .ok (.iconst 2, 1) := by decide +kernel
theorem dX10_ports_23 : decode cX10_ports 23 = .ok (.goto 14, 3) := by decide +kernel
theorem dX10_ports_26 : decode cX10_ports 26 = .ok (.iload_n 0, 1) := by decide +kernel
theorem dX10_ports_27 : decode cX10_ports 27 = .ok (.bipush 16, 2) := by decide +kernel
theorem dX10_ports_29 : decode cX10_ports 29 = .ok (.if_icmp .ne 7, 3) := by decide +kernel
theorem dX10_ports_32 : decode cX10_ports 32 = .ok (.iconst 3, 1) := by decide +kernel
theorem dX10_ports_33 : decode cX10_ports 33 = .ok (.goto 4, 3) := by decide +kernel
theorem dX10_ports_36 : decode cX10_ports 36 = .ok (.iconst 1, 1) := by decide +kernel
theorem dX10_ports_37 : decode cX10_ports 37 = .ok (.ireturn, 1) := by decide +kernel
theorem dX10_isNode_0 : decode cX10_isNode 0 = .ok (.iload_n 1, 1) := by decide +kernel
theorem dX10_isNode_1 : decode cX10_isNode 1 = .ok (.ifCond .lt 15, 3) := by decide +kernel
theorem dX10_isNode_4 : decode cX10_isNode 4 = .ok (.iload_n 1, 1) := by decide +kernel
theorem dX10_isNode_5 : decode cX10_isNode 5 = .ok (.aload_n 0, 1) := by decide +kernel
theorem dX10_isNode_6 : decode cX10_isNode 6 = .ok (.getfield 105, 3) := by decide +kernel
theorem dX10_isNode_9 : decode cX10_isNode 9 = .ok (.if_icmp .ge 7, 3) := by decide +kernel
theorem dX10_isNode_12 : decode cX10_isNode 12 = .ok (.iconst 1, 1) := by decide +kernel
theorem dX10_isNode_13 : decode cX10_isNode 13 = .ok (.goto 4, 3) := by decide +kernel
theorem dX10_isNode_16 : decode cX10_isNode 16 = .ok (.iconst 0, 1) := by decide +kernel
theorem dX10_isNode_17 : decode cX10_isNode 17 = .ok (.ireturn, 1) := by decide +kernel
theorem dX10_node_0 : decode cX10_node 0 = .ok (.iload_n 1, 1) := by decide +kernel
theorem dX10_node_1 : decode cX10_node 1 = .ok (.ifCond .lt 9, 3) := by decide +kernel
theorem dX10_node_4 : decode cX10_node 4 = .ok (.iload_n 1, 1) := by decide +kernel
theorem dX10_node_5 : decode cX10_node 5 = .ok (.bipush 17, 2) := by decide +kernel
theorem dX10_node_7 : decode cX10_node 7 = .ok (.if_icmp .le 9, 3) := by decide +kernel
theorem dX10_node_10 : decode cX10_node 10 = .ok (.aload_n 0, 1) := by decide +kernel
theorem dX10_node_11 : decode cX10_node 11 = .ok (.iconst 1, 1) := by decide +kernel
theorem dX10_node_12 : decode cX10_node 12 = .ok (.invokevirtual 108, 3) := by decide +kernel
theorem dX10_node_15 : decode cX10_node 15 = .ok (.ireturn, 1) := by decide +kernel
theorem dX10_node_16 : decode cX10_node 16 = .ok (.aload_n 0, 1) := by decide +kernel
theorem dX10_node_17 : decode cX10_node 17 = .ok (.getfield 105, 3) := by decide +kernel
theorem dX10_node_20 : decode cX10_node 20 = .ok (.bipush 40, 2) := by decide +kernel
theorem dX10_node_22 : decode cX10_node 22 = .ok (.if_icmp .eq 10, 3) := by decide +kernel
theorem dX10_node_25 : decode cX10_node 25 = .ok (.aload_n 0, 1) := by decide +kernel
theorem dX10_node_26 : decode cX10_node 26 = .ok (.getfield 112, 3) := by decide +kernel
theorem dX10_node_29 : decode cX10_node 29 = .ok (.ifCond .eq 9, 3) := by decide +kernel
theorem dX10_node_32 : decode cX10_node 32 = .ok (.aload_n 0, 1) := by decide +kernel
theorem dX10_node_33 : decode cX10_node 33 = .ok (.iconst 2, 1) := by decide +kernel
theorem dX10_node_34 : decode cX10_node 34 = .ok (.invokevirtual 108, 3) := by decide +kernel
theorem dX10_node_37 : decode cX10_node 37 = .ok (.ireturn, 1) := by decide +kernel
theorem dX10_node_38 : decode cX10_node 38 = .ok (.aload_n 0, 1) := by decide +kernel
theorem dX10_node_39 : decode cX10_node 39 = .ok (.iconst 0, 1) := by decide +kernel
theorem dX10_node_40 : decode cX10_node 40 = .ok (.putfield 102, 3) := by decide +kernel
theorem dX10_node_43 : decode cX10_node 43 = .ok (.aload_n 0, 1) := by decide +kernel
theorem dX10_node_44 : decode cX10_node 44 = .ok (.getfield 7, 3) := by decide +kernel
theorem dX10_node_47 : decode cX10_node 47 = .ok (.aload_n 0, 1) := by decide +kernel
theorem dX10_node_48 : decode cX10_node 48 = .ok (.getfield 105, 3) := by decide +kernel
theorem dX10_node_51 : decode cX10_node 51 = .ok (.iload_n 1, 1) := by decide +kernel
theorem dX10_node_52 : decode cX10_node 52 = .ok (.iastore, 1) := by decide +kernel
theorem dX10_node_53 : decode cX10_node 53 = .ok (.aload_n 0, 1) := by decide +kernel
theorem dX10_node_54 : decode cX10_node 54 = .ok (.getfield 13, 3) := by decide +kernel
theorem dX10_node_57 : decode cX10_node 57 = .ok (.aload_n 0, 1) := by decide +kernel
theorem dX10_node_58 : decode cX10_node 58 = .ok (.getfield 105, 3) := by decide +kernel
theorem dX10_node_61 : decode cX10_node 61 = .ok (.iload_n 2, 1) := by decide +kernel
theorem dX10_node_62 : decode cX10_node 62 = .ok (.iastore, 1) := by decide +kernel
theorem dX10_node_63 : decode cX10_node 63 = .ok (.aload_n 0, 1) := by decide +kernel
theorem dX10_node_64 : decode cX10_node 64 = .ok (.getfield 16, 3) := by decide +kernel
theorem dX10_node_67 : decode cX10_node 67 = .ok (.aload_n 0, 1) := by decide +kernel
theorem dX10_node_68 : decode cX10_node 68 = .ok (.getfield 105, 3) := by decide +kernel
theorem dX10_node_71 : decode cX10_node 71 = .ok (.iconst 0, 1) := by decide +kernel
theorem dX10_node_72 : decode cX10_node 72 = .ok (.iastore, 1) := by decide +kernel
theorem dX10_node_73 : decode cX10_node 73 = .ok (.aload_n 0, 1) := by decide +kernel
theorem dX10_node_74 : decode cX10_node 74 = .ok (.dup, 1) := by decide +kernel
theorem dX10_node_75 : decode cX10_node 75 = .ok (.getfield 105, 3) := by decide +kernel
theorem dX10_node_78 : decode cX10_node 78 = .ok (.iconst 1, 1) := by decide +kernel
theorem dX10_node_79 : decode cX10_node 79 = .ok (.iadd, 1) := by decide +kernel
theorem dX10_node_80 : decode cX10_node 80 = .ok (.putfield 105, 3) := by decide +kernel
theorem dX10_node_83 : decode cX10_node 83 = .ok (.aload_n 0, 1) := by decide +kernel
theorem dX10_node_84 : decode cX10_node 84 = .ok (.getfield 105, 3) := by decide +kernel
theorem dX10_node_87 : decode cX10_node 87 = .ok (.iconst 1, 1) := by decide +kernel
theorem dX10_node_88 : decode cX10_node 88 = .ok (.isub, 1) := by decide +kernel
theorem dX10_node_89 : decode cX10_node 89 = .ok (.ireturn, 1) := by decide +kernel
theorem dX10_arc_0 : decode cX10_arc 0 = .ok (.aload_n 0, 1) := by decide +kernel
theorem dX10_arc_1 : decode cX10_arc 1 = .ok (.iconst 0, 1) := by decide +kernel
theorem dX10_arc_2 : decode cX10_arc 2 = .ok (.putfield 102, 3) := by decide +kernel
theorem dX10_arc_5 : decode cX10_arc 5 = .ok (.aload_n 0, 1) := by decide +kernel
theorem dX10_arc_6 : decode cX10_arc 6 = .ok (.iload_n 1, 1) := by decide +kernel
theorem dX10_arc_7 : decode cX10_arc 7 = .ok (.invokevirtual 116, 3) := by decide +kernel
theorem dX10_arc_10 : decode cX10_arc 10 = .ok (.ifCond .eq 31, 3) := by decide +kernel
theorem dX10_arc_13 : decode cX10_arc 13 = .ok (.aload_n 0, 1) := by decide +kernel
theorem dX10_arc_14 : decode cX10_arc 14 = .ok (.iload_n 3, 1) := by decide +kernel
theorem dX10_arc_15 : decode cX10_arc 15 = .ok (.invokevirtual 116, 3) := by decide +kernel
theorem dX10_arc_18 : decode cX10_arc 18 = .ok (.ifCond .eq 23, 3) := by decide +kernel
theorem dX10_arc_21 : decode cX10_arc 21 = .ok (.aload_n 0, 1) := by decide +kernel
theorem dX10_arc_22 : decode cX10_arc 22 = .ok (.getfield 112, 3) := by decide +kernel
theorem dX10_arc_25 : decode cX10_arc 25 = .ok (.ifCond .ne 16, 3) := by decide +kernel
theorem dX10_arc_28 : decode cX10_arc 28 = .ok (.iload_n 2, 1) := by decide +kernel
theorem dX10_arc_29 : decode cX10_arc 29 = .ok (.ifCond .lt 12, 3) := by decide +kernel
theorem dX10_arc_32 : decode cX10_arc 32 = .ok (.iload_n 2, 1) := by decide +kernel
theorem dX10_arc_33 : decode cX10_arc 33 = .ok (.iconst 1, 1) := by decide +kernel
theorem dX10_arc_34 : decode cX10_arc 34 = .ok (.if_icmp .gt 7, 3) := by decide +kernel
theorem dX10_arc_37 : decode cX10_arc 37 = .ok (.iconst 1, 1) := by decide +kernel
theorem dX10_arc_38 : decode cX10_arc 38 = .ok (.goto 4, 3) := by decide +kernel
theorem dX10_arc_41 : decode cX10_arc 41 = .ok (.iconst 0, 1) := by decide +kernel
theorem dX10_arc_42 : decode cX10_arc 42 = .ok (.istore 5, 2) := by decide +kernel
theorem dX10_arc_44 : decode cX10_arc 44 = .ok (.iload 5, 2) := by decide +kernel
theorem dX10_arc_46 : decode cX10_arc 46 = .ok (.ifCond .eq 49, 3) := by decide +kernel
theorem dX10_arc_49 : decode cX10_arc 49 = .ok (.iload_n 2, 1) := by decide +kernel
theorem dX10_arc_50 : decode cX10_arc 50 = .ok (.iconst 1, 1) := by decide +kernel
theorem dX10_arc_51 : decode cX10_arc 51 = .ok (.if_icmp .ne 14, 3) := by decide +kernel
theorem dX10_arc_54 : decode cX10_arc 54 = .ok (.aload_n 0, 1) := by decide +kernel
theorem dX10_arc_55 : decode cX10_arc 55 = .ok (.getfield 7, 3) := by decide +kernel
theorem dX10_arc_58 : decode cX10_arc 58 = .ok (.iload_n 1, 1) := by decide +kernel
theorem dX10_arc_59 : decode cX10_arc 59 = .ok (.iaload, 1) := by decide +kernel
theorem dX10_arc_60 : decode cX10_arc 60 = .ok (.bipush 7, 2) := by decide +kernel
theorem dX10_arc_62 : decode cX10_arc 62 = .ok (.if_icmp .ne 33, 3) := by decide +kernel
theorem dX10_arc_65 : decode cX10_arc 65 = .ok (.iload 4, 2) := by decide +kernel
theorem dX10_arc_67 : decode cX10_arc 67 = .ok (.ifCond .lt 28, 3) := by decide +kernel
theorem dX10_arc_70 : decode cX10_arc 70 = .ok (.iload 4, 2) := by decide +kernel
theorem dX10_arc_72 : decode cX10_arc 72 = .ok (.aload_n 0, 1) := by decide +kernel
theorem dX10_arc_73 : decode cX10_arc 73 = .ok (.getfield 7, 3) := by decide +kernel
theorem dX10_arc_76 : decode cX10_arc 76 = .ok (.iload_n 3, 1) := by decide +kernel
theorem dX10_arc_77 : decode cX10_arc 77 = .ok (.iaload, 1) := by decide +kernel
theorem dX10_arc_78 : decode cX10_arc 78 = .ok (.invokestatic 120, 3) := by decide +kernel
theorem dX10_arc_81 : decode cX10_arc 81 = .ok (.if_icmp .ge 14, 3) := by decide +kernel
theorem dX10_arc_84 : decode cX10_arc 84 = .ok (.aload_n 0, 1) := by decide +kernel
theorem dX10_arc_85 : decode cX10_arc 85 = .ok (.getfield 16, 3) := by decide +kernel
theorem dX10_arc_88 : decode cX10_arc 88 = .ok (.iload_n 1, 1) := by decide +kernel
theorem dX10_arc_89 : decode cX10_arc 89 = .ok (.iaload, 1) := by decide +kernel
theorem dX10_arc_90 : decode cX10_arc 90 = .ok (.bipush 6, 2) := by decide +kernel
theorem dX10_arc_92 : decode cX10_arc 92 = .ok (.if_icmp .ne 5, 3) := by decide +kernel
theorem dX10_arc_95 : decode cX10_arc 95 = .ok (.iconst 0, 1) := by decide +kernel
theorem dX10_arc_96 : decode cX10_arc 96 = .ok (.ireturn, 1) := by decide +kernel
theorem dX10_arc_97 : decode cX10_arc 97 = .ok (.bipush 6, 2) := by decide +kernel
theorem dX10_arc_99 : decode cX10_arc 99 = .ok (.iload_n 1, 1) := by decide +kernel
theorem dX10_arc_100 : decode cX10_arc 100 = .ok (.imul, 1) := by decide +kernel
theorem dX10_arc_101 : decode cX10_arc 101 = .ok (.aload_n 0, 1) := by decide +kernel
theorem dX10_arc_102 : decode cX10_arc 102 = .ok (.getfield 16, 3) := by decide +kernel
theorem dX10_arc_105 : decode cX10_arc 105 = .ok (.iload_n 1, 1) := by decide +kernel
theorem dX10_arc_106 : decode cX10_arc 106 = .ok (.iaload, 1) := by decide +kernel
theorem dX10_arc_107 : decode cX10_arc 107 = .ok (.iadd, 1) := by decide +kernel
theorem dX10_arc_108 : decode cX10_arc 108 = .ok (.istore 6, 2) := by decide +kernel
theorem dX10_arc_110 : decode cX10_arc 110 = .ok (.aload_n 0, 1) := by decide +kernel
theorem dX10_arc_111 : decode cX10_arc 111 = .ok (.getfield 19, 3) := by decide +kernel
theorem dX10_arc_114 : decode cX10_arc 114 = .ok (.iload 6, 2) := by decide +kernel
theorem dX10_arc_116 : decode cX10_arc 116 = .ok (.iload_n 2, 1) := by decide +kernel
theorem dX10_arc_117 : decode cX10_arc 117 = .ok (.iastore, 1) := by decide +kernel
theorem dX10_arc_118 : decode cX10_arc 118 = .ok (.aload_n 0, 1) := by decide +kernel
theorem dX10_arc_119 : decode cX10_arc 119 = .ok (.getfield 22, 3) := by decide +kernel
theorem dX10_arc_122 : decode cX10_arc 122 = .ok (.iload 6, 2) := by decide +kernel
theorem dX10_arc_124 : decode cX10_arc 124 = .ok (.iload_n 3, 1) := by decide +kernel
theorem dX10_arc_125 : decode cX10_arc 125 = .ok (.iastore, 1) := by decide +kernel
theorem dX10_arc_126 : decode cX10_arc 126 = .ok (.aload_n 0, 1) := by decide +kernel
theorem dX10_arc_127 : decode cX10_arc 127 = .ok (.getfield 25, 3) := by decide +kernel
theorem dX10_arc_130 : decode cX10_arc 130 = .ok (.iload 6, 2) := by decide +kernel
theorem dX10_arc_132 : decode cX10_arc 132 = .ok (.iload 4, 2) := by decide +kernel
theorem dX10_arc_134 : decode cX10_arc 134 = .ok (.iastore, 1) := by decide +kernel
theorem dX10_arc_135 : decode cX10_arc 135 = .ok (.aload_n 0, 1) := by decide +kernel
theorem dX10_arc_136 : decode cX10_arc 136 = .ok (.getfield 16, 3) := by decide +kernel
theorem dX10_arc_139 : decode cX10_arc 139 = .ok (.iload_n 1, 1) := by decide +kernel
theorem dX10_arc_140 : decode cX10_arc 140 = .ok (.dup2, 1) := by decide +kernel
theorem dX10_arc_141 : decode cX10_arc 141 = .ok (.iaload, 1) := by decide +kernel
theorem dX10_arc_142 : decode cX10_arc 142 = .ok (.iconst 1, 1) := by decide +kernel
theorem dX10_arc_143 : decode cX10_arc 143 = .ok (.iadd, 1) := by decide +kernel
theorem dX10_arc_144 : decode cX10_arc 144 = .ok (.iastore, 1) := by decide +kernel
theorem dX10_arc_145 : decode cX10_arc 145 = .ok (.iconst 1, 1) := by decide +kernel
theorem dX10_arc_146 : decode cX10_arc 146 = .ok (.ireturn, 1) := by decide +kernel
theorem dX10_waits_0 : decode cX10_waits 0 = .ok (.iconst 0, 1) := by decide +kernel
theorem dX10_waits_1 : decode cX10_waits 1 = .ok (.istore 4, 2) := by decide +kernel
theorem dX10_waits_3 : decode cX10_waits 3 = .ok (.iload 4, 2) := by decide +kernel
theorem dX10_waits_5 : decode cX10_waits 5 = .ok (.aload_n 0, 1) := by decide +kernel
theorem dX10_waits_6 : decode cX10_waits 6 = .ok (.getfield 123, 3) := by decide +kernel
theorem dX10_waits_9 : decode cX10_waits 9 = .ok (.if_icmp .ge 45, 3) := by decide +kernel
theorem dX10_waits_12 : decode cX10_waits 12 = .ok (.aload_n 0, 1) := by decide +kernel
theorem dX10_waits_13 : decode cX10_waits 13 = .ok (.getfield 51, 3) := by decide +kernel
theorem dX10_waits_16 : decode cX10_waits 16 = .ok (.iload 4, 2) := by decide +kernel
theorem dX10_waits_18 : decode cX10_waits 18 = .ok (.iaload, 1) := by decide +kernel
theorem dX10_waits_19 : decode cX10_waits 19 = .ok (.iload_n 1, 1) := by decide +kernel
theorem dX10_waits_20 : decode cX10_waits 20 = .ok (.if_icmp .ne 28, 3) := by decide +kernel
theorem dX10_waits_23 : decode cX10_waits 23 = .ok (.aload_n 0, 1) := by decide +kernel
theorem dX10_waits_24 : decode cX10_waits 24 = .ok (.getfield 54, 3) := by decide +kernel
theorem dX10_waits_27 : decode cX10_waits 27 = .ok (.iload 4, 2) := by decide +kernel
theorem dX10_waits_29 : decode cX10_waits 29 = .ok (.iaload, 1) := by decide +kernel
theorem dX10_waits_30 : decode cX10_waits 30 = .ok (.iload_n 2, 1) := by decide +kernel
theorem dX10_waits_31 : decode cX10_waits 31 = .ok (.if_icmp .ne 17, 3) := by decide +kernel
theorem dX10_waits_34 : decode cX10_waits 34 = .ok (.aload_n 0, 1) := by decide +kernel
theorem dX10_waits_35 : decode cX10_waits 35 = .ok (.getfield 57, 3) := by decide +kernel
theorem dX10_waits_38 : decode cX10_waits 38 = .ok (.iload 4, 2) := by decide +kernel
theorem dX10_waits_40 : decode cX10_waits 40 = .ok (.iaload, 1) := by decide +kernel
theorem dX10_waits_41 : decode cX10_waits 41 = .ok (.iload_n 3, 1) := by decide +kernel
theorem dX10_waits_42 : decode cX10_waits 42 = .ok (.if_icmp .ne 6, 3) := by decide +kernel
theorem dX10_waits_45 : decode cX10_waits 45 = .ok (.iload 4, 2) := by decide +kernel
theorem dX10_waits_47 : decode cX10_waits 47 = .ok (.ireturn, 1) := by decide +kernel
theorem dX10_waits_48 : decode cX10_waits 48 = .ok (.iinc 4 1, 3) := by decide +kernel
theorem dX10_waits_51 : decode cX10_waits 51 = .ok (.goto (-48), 3) := by decide +kernel
theorem dX10_waits_54 : decode cX10_waits 54 = .ok (.iconst (-1), 1) := by decide +kernel
theorem dX10_waits_55 : decode cX10_waits 55 = .ok (.ireturn, 1) := by decide +kernel
theorem dX10_comes_0 : decode cX10_comes 0 = .ok (.aload_n 0, 1) := by decide +kernel
theorem dX10_comes_1 : decode cX10_comes 1 = .ok (.getfield 126, 3) := by decide +kernel
theorem dX10_comes_4 : decode cX10_comes 4 = .ok (.ifCond .le 4, 3) := by decide +kernel
theorem dX10_comes_7 : decode cX10_comes 7 = .ok (.return_, 1) := by decide +kernel
theorem dX10_comes_8 : decode cX10_comes 8 = .ok (.aload_n 0, 1) := by decide +kernel
theorem dX10_comes_9 : decode cX10_comes 9 = .ok (.iload_n 1, 1) := by decide +kernel
theorem dX10_comes_10 : decode cX10_comes 10 = .ok (.iload_n 2, 1) := by decide +kernel
theorem dX10_comes_11 : decode cX10_comes 11 = .ok (.iload_n 3, 1) := by decide +kernel
theorem dX10_comes_12 : decode cX10_comes 12 = .ok (.invokevirtual 129, 3) := by decide +kernel
theorem dX10_comes_15 : decode cX10_comes 15 = .ok (.iconst (-1), 1) := by decide +kernel
theorem dX10_comes_16 : decode cX10_comes 16 = .ok (.if_icmp .eq 9, 3) := by decide +kernel
theorem dX10_comes_19 : decode cX10_comes 19 = .ok (.aload_n 0, 1) := by decide +kernel
theorem dX10_comes_20 : decode cX10_comes 20 = .ok (.iconst 1, 1) := by decide +kernel
theorem dX10_comes_21 : decode cX10_comes 21 = .ok (.putfield 126, 3) := by decide +kernel
theorem dX10_comes_24 : decode cX10_comes 24 = .ok (.return_, 1) := by decide +kernel
theorem dX10_comes_25 : decode cX10_comes 25 = .ok (.aload_n 0, 1) := by decide +kernel
theorem dX10_comes_26 : decode cX10_comes 26 = .ok (.getfield 123, 3) := by decide +kernel
theorem dX10_comes_29 : decode cX10_comes 29 = .ok (.aload_n 0, 1) := by decide +kernel
theorem dX10_comes_30 : decode cX10_comes 30 = .ok (.getfield 133, 3) := by decide +kernel
theorem dX10_comes_33 : decode cX10_comes 33 = .ok (.iadd, 1) := by decide +kernel
theorem dX10_comes_34 : decode cX10_comes 34 = .ok (.aload_n 0, 1) := by decide +kernel
theorem dX10_comes_35 : decode cX10_comes 35 = .ok (.getfield 136, 3) := by decide +kernel
theorem dX10_comes_38 : decode cX10_comes 38 = .ok (.iadd, 1) := by decide +kernel
theorem dX10_comes_39 : decode cX10_comes 39 = .ok (.sipush 300, 3) := by decide +kernel
theorem dX10_comes_42 : decode cX10_comes 42 = .ok (.if_icmp .lt 9, 3) := by decide +kernel
theorem dX10_comes_45 : decode cX10_comes 45 = .ok (.aload_n 0, 1) := by decide +kernel
theorem dX10_comes_46 : decode cX10_comes 46 = .ok (.iconst 2, 1) := by decide +kernel
theorem dX10_comes_47 : decode cX10_comes 47 = .ok (.putfield 126, 3) := by decide +kernel
theorem dX10_comes_50 : decode cX10_comes 50 = .ok (.return_, 1) := by decide +kernel
theorem dX10_comes_51 : decode cX10_comes 51 = .ok (.aload_n 0, 1) := by decide +kernel
theorem dX10_comes_52 : decode cX10_comes 52 = .ok (.getfield 51, 3) := by decide +kernel
theorem dX10_comes_55 : decode cX10_comes 55 = .ok (.aload_n 0, 1) := by decide +kernel
theorem dX10_comes_56 : decode cX10_comes 56 = .ok (.getfield 123, 3) := by decide +kernel
theorem dX10_comes_59 : decode cX10_comes 59 = .ok (.iload_n 1, 1) := by decide +kernel
theorem dX10_comes_60 : decode cX10_comes 60 = .ok (.iastore, 1) := by decide +kernel
theorem dX10_comes_61 : decode cX10_comes 61 = .ok (.aload_n 0, 1) := by decide +kernel
theorem dX10_comes_62 : decode cX10_comes 62 = .ok (.getfield 54, 3) := by decide +kernel
theorem dX10_comes_65 : decode cX10_comes 65 = .ok (.aload_n 0, 1) := by decide +kernel
theorem dX10_comes_66 : decode cX10_comes 66 = .ok (.getfield 123, 3) := by decide +kernel
theorem dX10_comes_69 : decode cX10_comes 69 = .ok (.iload_n 2, 1) := by decide +kernel
theorem dX10_comes_70 : decode cX10_comes 70 = .ok (.iastore, 1) := by decide +kernel
theorem dX10_comes_71 : decode cX10_comes 71 = .ok (.aload_n 0, 1) := by decide +kernel
theorem dX10_comes_72 : decode cX10_comes 72 = .ok (.getfield 57, 3) := by decide +kernel
theorem dX10_comes_75 : decode cX10_comes 75 = .ok (.aload_n 0, 1) := by decide +kernel
theorem dX10_comes_76 : decode cX10_comes 76 = .ok (.getfield 123, 3) := by decide +kernel
theorem dX10_comes_79 : decode cX10_comes 79 = .ok (.iload_n 3, 1) := by decide +kernel
theorem dX10_comes_80 : decode cX10_comes 80 = .ok (.iastore, 1) := by decide +kernel
theorem dX10_comes_81 : decode cX10_comes 81 = .ok (.aload_n 0, 1) := by decide +kernel
theorem dX10_comes_82 : decode cX10_comes 82 = .ok (.getfield 60, 3) := by decide +kernel
theorem dX10_comes_85 : decode cX10_comes 85 = .ok (.aload_n 0, 1) := by decide +kernel
theorem dX10_comes_86 : decode cX10_comes 86 = .ok (.getfield 123, 3) := by decide +kernel
theorem dX10_comes_89 : decode cX10_comes 89 = .ok (.iload 4, 2) := by decide +kernel
theorem dX10_comes_91 : decode cX10_comes 91 = .ok (.iastore, 1) := by decide +kernel
theorem dX10_comes_92 : decode cX10_comes 92 = .ok (.aload_n 0, 1) := by decide +kernel
theorem dX10_comes_93 : decode cX10_comes 93 = .ok (.getfield 63, 3) := by decide +kernel
theorem dX10_comes_96 : decode cX10_comes 96 = .ok (.aload_n 0, 1) := by decide +kernel
theorem dX10_comes_97 : decode cX10_comes 97 = .ok (.getfield 123, 3) := by decide +kernel
theorem dX10_comes_100 : decode cX10_comes 100 = .ok (.lload 5, 2) := by decide +kernel
theorem dX10_comes_102 : decode cX10_comes 102 = .ok (.lastore, 1) := by decide +kernel
theorem dX10_comes_103 : decode cX10_comes 103 = .ok (.aload_n 0, 1) := by decide +kernel
theorem dX10_comes_104 : decode cX10_comes 104 = .ok (.dup, 1) := by decide +kernel
theorem dX10_comes_105 : decode cX10_comes 105 = .ok (.getfield 123, 3) := by decide +kernel
theorem dX10_comes_108 : decode cX10_comes 108 = .ok (.iconst 1, 1) := by decide +kernel
theorem dX10_comes_109 : decode cX10_comes 109 = .ok (.iadd, 1) := by decide +kernel
theorem dX10_comes_110 : decode cX10_comes 110 = .ok (.putfield 123, 3) := by decide +kernel
theorem dX10_comes_113 : decode cX10_comes 113 = .ok (.aload_n 0, 1) := by decide +kernel
theorem dX10_comes_114 : decode cX10_comes 114 = .ok (.iload_n 1, 1) := by decide +kernel
theorem dX10_comes_115 : decode cX10_comes 115 = .ok (.iload_n 3, 1) := by decide +kernel
theorem dX10_comes_116 : decode cX10_comes 116 = .ok (.invokevirtual 139, 3) := by decide +kernel
theorem dX10_comes_119 : decode cX10_comes 119 = .ok (.return_, 1) := by decide +kernel
theorem dX10_gather_0 : decode cX10_gather 0 = .ok (.aload_n 0, 1) := by decide +kernel
theorem dX10_gather_1 : decode cX10_gather 1 = .ok (.getfield 7, 3) := by decide +kernel
theorem dX10_gather_4 : decode cX10_gather 4 = .ok (.iload_n 1, 1) := by decide +kernel
theorem dX10_gather_5 : decode cX10_gather 5 = .ok (.iaload, 1) := by decide +kernel
theorem dX10_gather_6 : decode cX10_gather 6 = .ok (.invokestatic 120, 3) := by decide +kernel
theorem dX10_gather_9 : decode cX10_gather 9 = .ok (.istore_n 3, 1) := by decide +kernel
theorem dX10_gather_10 : decode cX10_gather 10 = .ok (.iconst 0, 1) := by decide +kernel
theorem dX10_gather_11 : decode cX10_gather 11 = .ok (.istore 4, 2) := by decide +kernel
theorem dX10_gather_13 : decode cX10_gather 13 = .ok (.iload 4, 2) := by decide +kernel
theorem dX10_gather_15 : decode cX10_gather 15 = .ok (.iload_n 3, 1) := by decide +kernel
theorem dX10_gather_16 : decode cX10_gather 16 = .ok (.if_icmp .ge 22, 3) := by decide +kernel
theorem dX10_gather_19 : decode cX10_gather 19 = .ok (.aload_n 0, 1) := by decide +kernel
theorem dX10_gather_20 : decode cX10_gather 20 = .ok (.iload_n 1, 1) := by decide +kernel
theorem dX10_gather_21 : decode cX10_gather 21 = .ok (.iload 4, 2) := by decide +kernel
theorem dX10_gather_23 : decode cX10_gather 23 = .ok (.iload_n 2, 1) := by decide +kernel
theorem dX10_gather_24 : decode cX10_gather 24 = .ok (.invokevirtual 129, 3) := by decide +kernel
theorem dX10_gather_27 : decode cX10_gather 27 = .ok (.iconst (-1), 1) := by decide +kernel
theorem dX10_gather_28 : decode cX10_gather 28 = .ok (.if_icmp .ne 4, 3) := by decide +kernel
theorem dX10_gather_31 : decode cX10_gather 31 = .ok (.return_, 1) := by decide +kernel
theorem dX10_gather_32 : decode cX10_gather 32 = .ok (.iinc 4 1, 3) := by decide +kernel
theorem dX10_gather_35 : decode cX10_gather 35 = .ok (.goto (-22), 3) := by decide +kernel
theorem dX10_gather_38 : decode cX10_gather 38 = .ok (.aload_n 0, 1) := by decide +kernel
theorem dX10_gather_39 : decode cX10_gather 39 = .ok (.getfield 66, 3) := by decide +kernel
theorem dX10_gather_42 : decode cX10_gather 42 = .ok (.aload_n 0, 1) := by decide +kernel
theorem dX10_gather_43 : decode cX10_gather 43 = .ok (.getfield 133, 3) := by decide +kernel
theorem dX10_gather_46 : decode cX10_gather 46 = .ok (.iload_n 1, 1) := by decide +kernel
theorem dX10_gather_47 : decode cX10_gather 47 = .ok (.iastore, 1) := by decide +kernel
theorem dX10_gather_48 : decode cX10_gather 48 = .ok (.aload_n 0, 1) := by decide +kernel
theorem dX10_gather_49 : decode cX10_gather 49 = .ok (.getfield 69, 3) := by decide +kernel
theorem dX10_gather_52 : decode cX10_gather 52 = .ok (.aload_n 0, 1) := by decide +kernel
theorem dX10_gather_53 : decode cX10_gather 53 = .ok (.getfield 133, 3) := by decide +kernel
theorem dX10_gather_56 : decode cX10_gather 56 = .ok (.iload_n 2, 1) := by decide +kernel
theorem dX10_gather_57 : decode cX10_gather 57 = .ok (.iastore, 1) := by decide +kernel
theorem dX10_gather_58 : decode cX10_gather 58 = .ok (.iconst 0, 1) := by decide +kernel
theorem dX10_gather_59 : decode cX10_gather 59 = .ok (.istore 4, 2) := by decide +kernel
theorem dX10_gather_61 : decode cX10_gather 61 = .ok (.iload 4, 2) := by decide +kernel
theorem dX10_gather_63 : decode cX10_gather 63 = .ok (.iload_n 3, 1) := by decide +kernel
theorem dX10_gather_64 : decode cX10_gather 64 = .ok (.if_icmp .ge 170, 3) := by decide +kernel
theorem dX10_gather_67 : decode cX10_gather 67 = .ok (.aload_n 0, 1) := by decide +kernel
theorem dX10_gather_68 : decode cX10_gather 68 = .ok (.iload_n 1, 1) := by decide +kernel
theorem dX10_gather_69 : decode cX10_gather 69 = .ok (.iload 4, 2) := by decide +kernel
theorem dX10_gather_71 : decode cX10_gather 71 = .ok (.iload_n 2, 1) := by decide +kernel
theorem dX10_gather_72 : decode cX10_gather 72 = .ok (.invokevirtual 129, 3) := by decide +kernel
theorem dX10_gather_75 : decode cX10_gather 75 = .ok (.istore 5, 2) := by decide +kernel
theorem dX10_gather_77 : decode cX10_gather 77 = .ok (.aload_n 0, 1) := by decide +kernel
theorem dX10_gather_78 : decode cX10_gather 78 = .ok (.getfield 72, 3) := by decide +kernel
theorem dX10_gather_81 : decode cX10_gather 81 = .ok (.iconst 3, 1) := by decide +kernel
theorem dX10_gather_82 : decode cX10_gather 82 = .ok (.aload_n 0, 1) := by decide +kernel
theorem dX10_gather_83 : decode cX10_gather 83 = .ok (.getfield 133, 3) := by decide +kernel
theorem dX10_gather_86 : decode cX10_gather 86 = .ok (.imul, 1) := by decide +kernel
theorem dX10_gather_87 : decode cX10_gather 87 = .ok (.iload 4, 2) := by decide +kernel
theorem dX10_gather_89 : decode cX10_gather 89 = .ok (.iadd, 1) := by decide +kernel
theorem dX10_gather_90 : decode cX10_gather 90 = .ok (.aload_n 0, 1) := by decide +kernel
theorem dX10_gather_91 : decode cX10_gather 91 = .ok (.getfield 60, 3) := by decide +kernel
theorem dX10_gather_94 : decode cX10_gather 94 = .ok (.iload 5, 2) := by decide +kernel
theorem dX10_gather_96 : decode cX10_gather 96 = .ok (.iaload, 1) := by decide +kernel
theorem dX10_gather_97 : decode cX10_gather 97 = .ok (.iastore, 1) := by decide +kernel
theorem dX10_gather_98 : decode cX10_gather 98 = .ok (.aload_n 0, 1) := by decide +kernel
theorem dX10_gather_99 : decode cX10_gather 99 = .ok (.getfield 75, 3) := by decide +kernel
theorem dX10_gather_102 : decode cX10_gather 102 = .ok (.iconst 3, 1) := by decide +kernel
theorem dX10_gather_103 : decode cX10_gather 103 = .ok (.aload_n 0, 1) := by decide +kernel
theorem dX10_gather_104 : decode cX10_gather 104 = .ok (.getfield 133, 3) := by decide +kernel
theorem dX10_gather_107 : decode cX10_gather 107 = .ok (.imul, 1) := by decide +kernel
theorem dX10_gather_108 : decode cX10_gather 108 = .ok (.iload 4, 2) := by decide +kernel
theorem dX10_gather_110 : decode cX10_gather 110 = .ok (.iadd, 1) := by decide +kernel
theorem dX10_gather_111 : decode cX10_gather 111 = .ok (.aload_n 0, 1) := by decide +kernel
theorem dX10_gather_112 : decode cX10_gather 112 = .ok (.getfield 63, 3) := by decide +kernel
theorem dX10_gather_115 : decode cX10_gather 115 = .ok (.iload 5, 2) := by decide +kernel
theorem dX10_gather_117 : decode cX10_gather 117 = .ok (.laload, 1) := by decide +kernel
theorem dX10_gather_118 : decode cX10_gather 118 = .ok (.lastore, 1) := by decide +kernel
theorem dX10_gather_119 : decode cX10_gather 119 = .ok (.aload_n 0, 1) := by decide +kernel
theorem dX10_gather_120 : decode cX10_gather 120 = .ok (.dup, 1) := by decide +kernel
theorem dX10_gather_121 : decode cX10_gather 121 = .ok (.getfield 123, 3) := by decide +kernel
theorem dX10_gather_124 : decode cX10_gather 124 = .ok (.iconst 1, 1) := by decide +kernel
theorem dX10_gather_125 : decode cX10_gather 125 = .ok (.isub, 1) := by decide +kernel
theorem dX10_gather_126 : decode cX10_gather 126 = .ok (.putfield 123, 3) := by decide +kernel
theorem dX10_gather_129 : decode cX10_gather 129 = .ok (.iload 5, 2) := by decide +kernel
theorem dX10_gather_131 : decode cX10_gather 131 = .ok (.istore 6, 2) := by decide +kernel
theorem dX10_gather_133 : decode cX10_gather 133 = .ok (.iload 6, 2) := by decide +kernel
theorem dX10_gather_135 : decode cX10_gather 135 = .ok (.aload_n 0, 1) := by decide +kernel
theorem dX10_gather_136 : decode cX10_gather 136 = .ok (.getfield 123, 3) := by decide +kernel
theorem dX10_gather_139 : decode cX10_gather 139 = .ok (.if_icmp .ge 89, 3) := by decide +kernel
theorem dX10_gather_142 : decode cX10_gather 142 = .ok (.aload_n 0, 1) := by decide +kernel
theorem dX10_gather_143 : decode cX10_gather 143 = .ok (.getfield 51, 3) := by decide +kernel
theorem dX10_gather_146 : decode cX10_gather 146 = .ok (.iload 6, 2) := by decide +kernel
theorem dX10_gather_148 : decode cX10_gather 148 = .ok (.aload_n 0, 1) := by decide +kernel
theorem dX10_gather_149 : decode cX10_gather 149 = .ok (.getfield 51, 3) := by decide +kernel
theorem dX10_gather_152 : decode cX10_gather 152 = .ok (.iload 6, 2) := by decide +kernel
theorem dX10_gather_154 : decode cX10_gather 154 = .ok (.iconst 1, 1) := by decide +kernel
theorem dX10_gather_155 : decode cX10_gather 155 = .ok (.iadd, 1) := by decide +kernel
theorem dX10_gather_156 : decode cX10_gather 156 = .ok (.iaload, 1) := by decide +kernel
theorem dX10_gather_157 : decode cX10_gather 157 = .ok (.iastore, 1) := by decide +kernel
theorem dX10_gather_158 : decode cX10_gather 158 = .ok (.aload_n 0, 1) := by decide +kernel
theorem dX10_gather_159 : decode cX10_gather 159 = .ok (.getfield 54, 3) := by decide +kernel
theorem dX10_gather_162 : decode cX10_gather 162 = .ok (.iload 6, 2) := by decide +kernel
theorem dX10_gather_164 : decode cX10_gather 164 = .ok (.aload_n 0, 1) := by decide +kernel
theorem dX10_gather_165 : decode cX10_gather 165 = .ok (.getfield 54, 3) := by decide +kernel
theorem dX10_gather_168 : decode cX10_gather 168 = .ok (.iload 6, 2) := by decide +kernel
theorem dX10_gather_170 : decode cX10_gather 170 = .ok (.iconst 1, 1) := by decide +kernel
theorem dX10_gather_171 : decode cX10_gather 171 = .ok (.iadd, 1) := by decide +kernel
theorem dX10_gather_172 : decode cX10_gather 172 = .ok (.iaload, 1) := by decide +kernel
theorem dX10_gather_173 : decode cX10_gather 173 = .ok (.iastore, 1) := by decide +kernel
theorem dX10_gather_174 : decode cX10_gather 174 = .ok (.aload_n 0, 1) := by decide +kernel
theorem dX10_gather_175 : decode cX10_gather 175 = .ok (.getfield 57, 3) := by decide +kernel
theorem dX10_gather_178 : decode cX10_gather 178 = .ok (.iload 6, 2) := by decide +kernel
theorem dX10_gather_180 : decode cX10_gather 180 = .ok (.aload_n 0, 1) := by decide +kernel
theorem dX10_gather_181 : decode cX10_gather 181 = .ok (.getfield 57, 3) := by decide +kernel
theorem dX10_gather_184 : decode cX10_gather 184 = .ok (.iload 6, 2) := by decide +kernel
theorem dX10_gather_186 : decode cX10_gather 186 = .ok (.iconst 1, 1) := by decide +kernel
theorem dX10_gather_187 : decode cX10_gather 187 = .ok (.iadd, 1) := by decide +kernel
theorem dX10_gather_188 : decode cX10_gather 188 = .ok (.iaload, 1) := by decide +kernel
theorem dX10_gather_189 : decode cX10_gather 189 = .ok (.iastore, 1) := by decide +kernel
theorem dX10_gather_190 : decode cX10_gather 190 = .ok (.aload_n 0, 1) := by decide +kernel
theorem dX10_gather_191 : decode cX10_gather 191 = .ok (.getfield 60, 3) := by decide +kernel
theorem dX10_gather_194 : decode cX10_gather 194 = .ok (.iload 6, 2) := by decide +kernel
theorem dX10_gather_196 : decode cX10_gather 196 = .ok (.aload_n 0, 1) := by decide +kernel
theorem dX10_gather_197 : decode cX10_gather 197 = .ok (.getfield 60, 3) := by decide +kernel
theorem dX10_gather_200 : decode cX10_gather 200 = .ok (.iload 6, 2) := by decide +kernel
theorem dX10_gather_202 : decode cX10_gather 202 = .ok (.iconst 1, 1) := by decide +kernel
theorem dX10_gather_203 : decode cX10_gather 203 = .ok (.iadd, 1) := by decide +kernel
theorem dX10_gather_204 : decode cX10_gather 204 = .ok (.iaload, 1) := by decide +kernel
theorem dX10_gather_205 : decode cX10_gather 205 = .ok (.iastore, 1) := by decide +kernel
theorem dX10_gather_206 : decode cX10_gather 206 = .ok (.aload_n 0, 1) := by decide +kernel
theorem dX10_gather_207 : decode cX10_gather 207 = .ok (.getfield 63, 3) := by decide +kernel
theorem dX10_gather_210 : decode cX10_gather 210 = .ok (.iload 6, 2) := by decide +kernel
theorem dX10_gather_212 : decode cX10_gather 212 = .ok (.aload_n 0, 1) := by decide +kernel
theorem dX10_gather_213 : decode cX10_gather 213 = .ok (.getfield 63, 3) := by decide +kernel
theorem dX10_gather_216 : decode cX10_gather 216 = .ok (.iload 6, 2) := by decide +kernel
theorem dX10_gather_218 : decode cX10_gather 218 = .ok (.iconst 1, 1) := by decide +kernel
theorem dX10_gather_219 : decode cX10_gather 219 = .ok (.iadd, 1) := by decide +kernel
theorem dX10_gather_220 : decode cX10_gather 220 = .ok (.laload, 1) := by decide +kernel
theorem dX10_gather_221 : decode cX10_gather 221 = .ok (.lastore, 1) := by decide +kernel
theorem dX10_gather_222 : decode cX10_gather 222 = .ok (.iinc 6 1, 3) := by decide +kernel
theorem dX10_gather_225 : decode cX10_gather 225 = .ok (.goto (-92), 3) := by decide +kernel
theorem dX10_gather_228 : decode cX10_gather 228 = .ok (.iinc 4 1, 3) := by decide +kernel
theorem dX10_gather_231 : decode cX10_gather 231 = .ok (.goto (-170), 3) := by decide +kernel
theorem dX10_gather_234 : decode cX10_gather 234 = .ok (.aload_n 0, 1) := by decide +kernel
theorem dX10_gather_235 : decode cX10_gather 235 = .ok (.dup, 1) := by decide +kernel
theorem dX10_gather_236 : decode cX10_gather 236 = .ok (.getfield 133, 3) := by decide +kernel
theorem dX10_gather_239 : decode cX10_gather 239 = .ok (.iconst 1, 1) := by decide +kernel
theorem dX10_gather_240 : decode cX10_gather 240 = .ok (.iadd, 1) := by decide +kernel
theorem dX10_gather_241 : decode cX10_gather 241 = .ok (.putfield 133, 3) := by decide +kernel
theorem dX10_gather_244 : decode cX10_gather 244 = .ok (.return_, 1) := by decide +kernel
theorem dX10_token_0 : decode cX10_token 0 = .ok (.aload_n 0, 1) := by decide +kernel
theorem dX10_token_1 : decode cX10_token 1 = .ok (.iconst 0, 1) := by decide +kernel
theorem dX10_token_2 : decode cX10_token 2 = .ok (.putfield 102, 3) := by decide +kernel
theorem dX10_token_5 : decode cX10_token 5 = .ok (.aload_n 0, 1) := by decide +kernel
theorem dX10_token_6 : decode cX10_token 6 = .ok (.iload_n 1, 1) := by decide +kernel
theorem dX10_token_7 : decode cX10_token 7 = .ok (.invokevirtual 116, 3) := by decide +kernel
theorem dX10_token_10 : decode cX10_token 10 = .ok (.ifCond .eq 27, 3) := by decide +kernel
theorem dX10_token_13 : decode cX10_token 13 = .ok (.iload_n 2, 1) := by decide +kernel
theorem dX10_token_14 : decode cX10_token 14 = .ok (.ifCond .lt 23, 3) := by decide +kernel
theorem dX10_token_17 : decode cX10_token 17 = .ok (.iload_n 2, 1) := by decide +kernel
theorem dX10_token_18 : decode cX10_token 18 = .ok (.aload_n 0, 1) := by decide +kernel
theorem dX10_token_19 : decode cX10_token 19 = .ok (.getfield 7, 3) := by decide +kernel
theorem dX10_token_22 : decode cX10_token 22 = .ok (.iload_n 1, 1) := by decide +kernel
theorem dX10_token_23 : decode cX10_token 23 = .ok (.iaload, 1) := by decide +kernel
theorem dX10_token_24 : decode cX10_token 24 = .ok (.invokestatic 120, 3) := by decide +kernel
theorem dX10_token_27 : decode cX10_token 27 = .ok (.if_icmp .ge 10, 3) := by decide +kernel
theorem dX10_token_30 : decode cX10_token 30 = .ok (.aload_n 0, 1) := by decide +kernel
theorem dX10_token_31 : decode cX10_token 31 = .ok (.getfield 126, 3) := by decide +kernel
theorem dX10_token_34 : decode cX10_token 34 = .ok (.ifCond .le 5, 3) := by decide +kernel
theorem dX10_token_37 : decode cX10_token 37 = .ok (.iconst 0, 1) := by decide +kernel
theorem dX10_token_38 : decode cX10_token 38 = .ok (.ireturn, 1) := by decide +kernel
theorem dX10_token_39 : decode cX10_token 39 = .ok (.aload_n 0, 1) := by decide +kernel
theorem dX10_token_40 : decode cX10_token 40 = .ok (.iconst 1, 1) := by decide +kernel
theorem dX10_token_41 : decode cX10_token 41 = .ok (.putfield 112, 3) := by decide +kernel
theorem dX10_token_44 : decode cX10_token 44 = .ok (.aload_n 0, 1) := by decide +kernel
theorem dX10_token_45 : decode cX10_token 45 = .ok (.iload_n 1, 1) := by decide +kernel
theorem dX10_token_46 : decode cX10_token 46 = .ok (.iload_n 2, 1) := by decide +kernel
theorem dX10_token_47 : decode cX10_token 47 = .ok (.iconst 0, 1) := by decide +kernel
theorem dX10_token_48 : decode cX10_token 48 = .ok (.iconst 0, 1) := by decide +kernel
theorem dX10_token_49 : decode cX10_token 49 = .ok (.lload_n 3, 1) := by decide +kernel
theorem dX10_token_50 : decode cX10_token 50 = .ok (.invokevirtual 143, 3) := by decide +kernel
theorem dX10_token_53 : decode cX10_token 53 = .ok (.iconst 1, 1) := by decide +kernel
theorem dX10_token_54 : decode cX10_token 54 = .ok (.ireturn, 1) := by decide +kernel
theorem dX10_send_0 : decode cX10_send 0 = .ok (.bipush 6, 2) := by decide +kernel
theorem dX10_send_2 : decode cX10_send 2 = .ok (.iload_n 1, 1) := by decide +kernel
theorem dX10_send_3 : decode cX10_send 3 = .ok (.imul, 1) := by decide +kernel
theorem dX10_send_4 : decode cX10_send 4 = .ok (.istore 7, 2) := by decide +kernel
theorem dX10_send_6 : decode cX10_send 6 = .ok (.iload 7, 2) := by decide +kernel
theorem dX10_send_8 : decode cX10_send 8 = .ok (.bipush 6, 2) := by decide +kernel
theorem dX10_send_10 : decode cX10_send 10 = .ok (.iload_n 1, 1) := by decide +kernel
theorem dX10_send_11 : decode cX10_send 11 = .ok (.imul, 1) := by decide +kernel
theorem dX10_send_12 : decode cX10_send 12 = .ok (.aload_n 0, 1) := by decide +kernel
theorem dX10_send_13 : decode cX10_send 13 = .ok (.getfield 16, 3) := by decide +kernel
theorem dX10_send_16 : decode cX10_send 16 = .ok (.iload_n 1, 1) := by decide +kernel
theorem dX10_send_17 : decode cX10_send 17 = .ok (.iaload, 1) := by decide +kernel
theorem dX10_send_18 : decode cX10_send 18 = .ok (.iadd, 1) := by decide +kernel
theorem dX10_send_19 : decode cX10_send 19 = .ok (.if_icmp .ge 48, 3) := by decide +kernel
theorem dX10_send_22 : decode cX10_send 22 = .ok (.iload_n 2, 1) := by decide +kernel
theorem dX10_send_23 : decode cX10_send 23 = .ok (.iconst 2, 1) := by decide +kernel
theorem dX10_send_24 : decode cX10_send 24 = .ok (.if_icmp .eq 14, 3) := by decide +kernel
theorem dX10_send_27 : decode cX10_send 27 = .ok (.aload_n 0, 1) := by decide +kernel
theorem dX10_send_28 : decode cX10_send 28 = .ok (.getfield 19, 3) := by decide +kernel
theorem dX10_send_31 : decode cX10_send 31 = .ok (.iload 7, 2) := by decide +kernel
theorem dX10_send_33 : decode cX10_send 33 = .ok (.iaload, 1) := by decide +kernel
theorem dX10_send_34 : decode cX10_send 34 = .ok (.iload_n 2, 1) := by decide +kernel
theorem dX10_send_35 : decode cX10_send 35 = .ok (.if_icmp .ne 26, 3) := by decide +kernel
theorem dX10_send_38 : decode cX10_send 38 = .ok (.aload_n 0, 1) := by decide +kernel
theorem dX10_send_39 : decode cX10_send 39 = .ok (.aload_n 0, 1) := by decide +kernel
theorem dX10_send_40 : decode cX10_send 40 = .ok (.getfield 22, 3) := by decide +kernel
theorem dX10_send_43 : decode cX10_send 43 = .ok (.iload 7, 2) := by decide +kernel
theorem dX10_send_45 : decode cX10_send 45 = .ok (.iaload, 1) := by decide +kernel
theorem dX10_send_46 : decode cX10_send 46 = .ok (.aload_n 0, 1) := by decide +kernel
theorem dX10_send_47 : decode cX10_send 47 = .ok (.getfield 25, 3) := by decide +kernel
theorem dX10_send_50 : decode cX10_send 50 = .ok (.iload 7, 2) := by decide +kernel
theorem dX10_send_52 : decode cX10_send 52 = .ok (.iaload, 1) := by decide +kernel
theorem dX10_send_53 : decode cX10_send 53 = .ok (.iload_n 3, 1) := by decide +kernel
theorem dX10_send_54 : decode cX10_send 54 = .ok (.iload 4, 2) := by decide +kernel
theorem dX10_send_56 : decode cX10_send 56 = .ok (.lload 5, 2) := by decide +kernel
theorem dX10_send_58 : decode cX10_send 58 = .ok (.invokevirtual 143, 3) := by decide +kernel
theorem dX10_send_61 : decode cX10_send 61 = .ok (.iinc 7 1, 3) := by decide +kernel
theorem dX10_send_64 : decode cX10_send 64 = .ok (.goto (-58), 3) := by decide +kernel
theorem dX10_send_67 : decode cX10_send 67 = .ok (.return_, 1) := by decide +kernel
theorem dX10_contextOf_0 : decode cX10_contextOf 0 = .ok (.iconst 1, 1) := by decide +kernel
theorem dX10_contextOf_1 : decode cX10_contextOf 1 = .ok (.istore 4, 2) := by decide +kernel
theorem dX10_contextOf_3 : decode cX10_contextOf 3 = .ok (.iload 4, 2) := by decide +kernel
theorem dX10_contextOf_5 : decode cX10_contextOf 5 = .ok (.aload_n 0, 1) := by decide +kernel
theorem dX10_contextOf_6 : decode cX10_contextOf 6 = .ok (.getfield 28, 3) := by decide +kernel
theorem dX10_contextOf_9 : decode cX10_contextOf 9 = .ok (.if_icmp .ge 45, 3) := by decide +kernel
theorem dX10_contextOf_12 : decode cX10_contextOf 12 = .ok (.aload_n 0, 1) := by decide +kernel
theorem dX10_contextOf_13 : decode cX10_contextOf 13 = .ok (.getfield 32, 3) := by decide +kernel
theorem dX10_contextOf_16 : decode cX10_contextOf 16 = .ok (.iload 4, 2) := by decide +kernel
theorem dX10_contextOf_18 : decode cX10_contextOf 18 = .ok (.iaload, 1) := by decide +kernel
theorem dX10_contextOf_19 : decode cX10_contextOf 19 = .ok (.iload_n 1, 1) := by decide +kernel
theorem dX10_contextOf_20 : decode cX10_contextOf 20 = .ok (.if_icmp .ne 28, 3) := by decide +kernel
theorem dX10_contextOf_23 : decode cX10_contextOf 23 = .ok (.aload_n 0, 1) := by decide +kernel
theorem dX10_contextOf_24 : decode cX10_contextOf 24 = .ok (.getfield 35, 3) := by decide +kernel
theorem dX10_contextOf_27 : decode cX10_contextOf 27 = .ok (.iload 4, 2) := by decide +kernel
theorem dX10_contextOf_29 : decode cX10_contextOf 29 = .ok (.iaload, 1) := by decide +kernel
theorem dX10_contextOf_30 : decode cX10_contextOf 30 = .ok (.iload_n 2, 1) := by decide +kernel
theorem dX10_contextOf_31 : decode cX10_contextOf 31 = .ok (.if_icmp .ne 17, 3) := by decide +kernel
theorem dX10_contextOf_34 : decode cX10_contextOf 34 = .ok (.aload_n 0, 1) := by decide +kernel
theorem dX10_contextOf_35 : decode cX10_contextOf 35 = .ok (.getfield 38, 3) := by decide +kernel
theorem dX10_contextOf_38 : decode cX10_contextOf 38 = .ok (.iload 4, 2) := by decide +kernel
theorem dX10_contextOf_40 : decode cX10_contextOf 40 = .ok (.iaload, 1) := by decide +kernel
theorem dX10_contextOf_41 : decode cX10_contextOf 41 = .ok (.iload_n 3, 1) := by decide +kernel
theorem dX10_contextOf_42 : decode cX10_contextOf 42 = .ok (.if_icmp .ne 6, 3) := by decide +kernel
theorem dX10_contextOf_45 : decode cX10_contextOf 45 = .ok (.iload 4, 2) := by decide +kernel
theorem dX10_contextOf_47 : decode cX10_contextOf 47 = .ok (.ireturn, 1) := by decide +kernel
theorem dX10_contextOf_48 : decode cX10_contextOf 48 = .ok (.iinc 4 1, 3) := by decide +kernel
theorem dX10_contextOf_51 : decode cX10_contextOf 51 = .ok (.goto (-48), 3) := by decide +kernel
theorem dX10_contextOf_54 : decode cX10_contextOf 54 = .ok (.aload_n 0, 1) := by decide +kernel
theorem dX10_contextOf_55 : decode cX10_contextOf 55 = .ok (.getfield 28, 3) := by decide +kernel
theorem dX10_contextOf_58 : decode cX10_contextOf 58 = .ok (.sipush 151, 3) := by decide +kernel
theorem dX10_contextOf_61 : decode cX10_contextOf 61 = .ok (.if_icmp .ne 10, 3) := by decide +kernel
theorem dX10_contextOf_64 : decode cX10_contextOf 64 = .ok (.aload_n 0, 1) := by decide +kernel
theorem dX10_contextOf_65 : decode cX10_contextOf 65 = .ok (.iconst 2, 1) := by decide +kernel
theorem dX10_contextOf_66 : decode cX10_contextOf 66 = .ok (.putfield 126, 3) := by decide +kernel
theorem dX10_contextOf_69 : decode cX10_contextOf 69 = .ok (.iconst (-1), 1) := by decide +kernel
theorem dX10_contextOf_70 : decode cX10_contextOf 70 = .ok (.ireturn, 1) := by decide +kernel
theorem dX10_contextOf_71 : decode cX10_contextOf 71 = .ok (.aload_n 0, 1) := by decide +kernel
theorem dX10_contextOf_72 : decode cX10_contextOf 72 = .ok (.getfield 32, 3) := by decide +kernel
theorem dX10_contextOf_75 : decode cX10_contextOf 75 = .ok (.aload_n 0, 1) := by decide +kernel
theorem dX10_contextOf_76 : decode cX10_contextOf 76 = .ok (.getfield 28, 3) := by decide +kernel
theorem dX10_contextOf_79 : decode cX10_contextOf 79 = .ok (.iload_n 1, 1) := by decide +kernel
theorem dX10_contextOf_80 : decode cX10_contextOf 80 = .ok (.iastore, 1) := by decide +kernel
theorem dX10_contextOf_81 : decode cX10_contextOf 81 = .ok (.aload_n 0, 1) := by decide +kernel
theorem dX10_contextOf_82 : decode cX10_contextOf 82 = .ok (.getfield 35, 3) := by decide +kernel
theorem dX10_contextOf_85 : decode cX10_contextOf 85 = .ok (.aload_n 0, 1) := by decide +kernel
theorem dX10_contextOf_86 : decode cX10_contextOf 86 = .ok (.getfield 28, 3) := by decide +kernel
theorem dX10_contextOf_89 : decode cX10_contextOf 89 = .ok (.iload_n 2, 1) := by decide +kernel
theorem dX10_contextOf_90 : decode cX10_contextOf 90 = .ok (.iastore, 1) := by decide +kernel
theorem dX10_contextOf_91 : decode cX10_contextOf 91 = .ok (.aload_n 0, 1) := by decide +kernel
theorem dX10_contextOf_92 : decode cX10_contextOf 92 = .ok (.getfield 38, 3) := by decide +kernel
theorem dX10_contextOf_95 : decode cX10_contextOf 95 = .ok (.aload_n 0, 1) := by decide +kernel
theorem dX10_contextOf_96 : decode cX10_contextOf 96 = .ok (.getfield 28, 3) := by decide +kernel
theorem dX10_contextOf_99 : decode cX10_contextOf 99 = .ok (.iload_n 3, 1) := by decide +kernel
theorem dX10_contextOf_100 : decode cX10_contextOf 100 = .ok (.iastore, 1) := by decide +kernel
theorem dX10_contextOf_101 : decode cX10_contextOf 101 = .ok (.aload_n 0, 1) := by decide +kernel
theorem dX10_contextOf_102 : decode cX10_contextOf 102 = .ok (.dup, 1) := by decide +kernel
theorem dX10_contextOf_103 : decode cX10_contextOf 103 = .ok (.getfield 28, 3) := by decide +kernel
theorem dX10_contextOf_106 : decode cX10_contextOf 106 = .ok (.iconst 1, 1) := by decide +kernel
theorem dX10_contextOf_107 : decode cX10_contextOf 107 = .ok (.iadd, 1) := by decide +kernel
theorem dX10_contextOf_108 : decode cX10_contextOf 108 = .ok (.putfield 28, 3) := by decide +kernel
theorem dX10_contextOf_111 : decode cX10_contextOf 111 = .ok (.aload_n 0, 1) := by decide +kernel
theorem dX10_contextOf_112 : decode cX10_contextOf 112 = .ok (.getfield 28, 3) := by decide +kernel
theorem dX10_contextOf_115 : decode cX10_contextOf 115 = .ok (.iconst 1, 1) := by decide +kernel
theorem dX10_contextOf_116 : decode cX10_contextOf 116 = .ok (.isub, 1) := by decide +kernel
theorem dX10_contextOf_117 : decode cX10_contextOf 117 = .ok (.ireturn, 1) := by decide +kernel
theorem dX10_sendError_0 : decode cX10_sendError 0 = .ok (.aload_n 0, 1) := by decide +kernel
theorem dX10_sendError_1 : decode cX10_sendError 1 = .ok (.iload_n 1, 1) := by decide +kernel
theorem dX10_sendError_2 : decode cX10_sendError 2 = .ok (.iconst 0, 1) := by decide +kernel
theorem dX10_sendError_3 : decode cX10_sendError 3 = .ok (.iload_n 2, 1) := by decide +kernel
theorem dX10_sendError_4 : decode cX10_sendError 4 = .ok (.iconst 1, 1) := by decide +kernel
theorem dX10_sendError_5 : decode cX10_sendError 5 = .ok (.iload_n 3, 1) := by decide +kernel
theorem dX10_sendError_6 : decode cX10_sendError 6 = .ok (.i2l, 1) := by decide +kernel
theorem dX10_sendError_7 : decode cX10_sendError 7 = .ok (.invokevirtual 147, 3) := by decide +kernel
theorem dX10_sendError_10 : decode cX10_sendError 10 = .ok (.return_, 1) := by decide +kernel
theorem dX10_errorOf_0 : decode cX10_errorOf 0 = .ok (.iconst 0, 1) := by decide +kernel
theorem dX10_errorOf_1 : decode cX10_errorOf 1 = .ok (.istore_n 2, 1) := by decide +kernel
theorem dX10_errorOf_2 : decode cX10_errorOf 2 = .ok (.iconst 0, 1) := by decide +kernel
theorem dX10_errorOf_3 : decode cX10_errorOf 3 = .ok (.istore_n 3, 1) := by decide +kernel
theorem dX10_errorOf_4 : decode cX10_errorOf 4 = .ok (.iload_n 3, 1) := by decide +kernel
theorem dX10_errorOf_5 : decode cX10_errorOf 5 = .ok (.iload_n 1, 1) := by decide +kernel
theorem dX10_errorOf_6 : decode cX10_errorOf 6 = .ok (.if_icmp .ge 43, 3) := by decide +kernel
theorem dX10_errorOf_9 : decode cX10_errorOf 9 = .ok (.aload_n 0, 1) := by decide +kernel
theorem dX10_errorOf_10 : decode cX10_errorOf 10 = .ok (.getfield 96, 3) := by decide +kernel
theorem dX10_errorOf_13 : decode cX10_errorOf 13 = .ok (.iload_n 3, 1) := by decide +kernel
theorem dX10_errorOf_14 : decode cX10_errorOf 14 = .ok (.iaload, 1) := by decide +kernel
theorem dX10_errorOf_15 : decode cX10_errorOf 15 = .ok (.iconst 1, 1) := by decide +kernel
theorem dX10_errorOf_16 : decode cX10_errorOf 16 = .ok (.if_icmp .ne 27, 3) := by decide +kernel
theorem dX10_errorOf_19 : decode cX10_errorOf 19 = .ok (.iload_n 2, 1) := by decide +kernel
theorem dX10_errorOf_20 : decode cX10_errorOf 20 = .ok (.ifCond .eq 15, 3) := by decide +kernel
theorem dX10_errorOf_23 : decode cX10_errorOf 23 = .ok (.aload_n 0, 1) := by decide +kernel
theorem dX10_errorOf_24 : decode cX10_errorOf 24 = .ok (.getfield 99, 3) := by decide +kernel
theorem dX10_errorOf_27 : decode cX10_errorOf 27 = .ok (.iload_n 3, 1) := by decide +kernel
theorem dX10_errorOf_28 : decode cX10_errorOf 28 = .ok (.laload, 1) := by decide +kernel
theorem dX10_errorOf_29 : decode cX10_errorOf 29 = .ok (.iload_n 2, 1) := by decide +kernel
theorem dX10_errorOf_30 : decode cX10_errorOf 30 = .ok (.i2l, 1) := by decide +kernel
theorem dX10_errorOf_31 : decode cX10_errorOf 31 = .ok (.lcmp, 1) := by decide +kernel
theorem dX10_errorOf_32 : decode cX10_errorOf 32 = .ok (.ifCond .ge 11, 3) := by decide +kernel
theorem dX10_errorOf_35 : decode cX10_errorOf 35 = .ok (.aload_n 0, 1) := by decide +kernel
theorem dX10_errorOf_36 : decode cX10_errorOf 36 = .ok (.getfield 99, 3) := by decide +kernel
theorem dX10_errorOf_39 : decode cX10_errorOf 39 = .ok (.iload_n 3, 1) := by decide +kernel
theorem dX10_errorOf_40 : decode cX10_errorOf 40 = .ok (.laload, 1) := by decide +kernel
theorem dX10_errorOf_41 : decode cX10_errorOf 41 = .ok (.l2i, 1) := by decide +kernel
theorem dX10_errorOf_42 : decode cX10_errorOf 42 = .ok (.istore_n 2, 1) := by decide +kernel
theorem dX10_errorOf_43 : decode cX10_errorOf 43 = .ok (.iinc 3 1, 3) := by decide +kernel
theorem dX10_errorOf_46 : decode cX10_errorOf 46 = .ok (.goto (-42), 3) := by decide +kernel
theorem dX10_errorOf_49 : decode cX10_errorOf 49 = .ok (.iload_n 2, 1) := by decide +kernel
theorem dX10_errorOf_50 : decode cX10_errorOf 50 = .ok (.ireturn, 1) := by decide +kernel
theorem dX10_take_0 : decode cX10_take 0 = .ok (.iconst 0, 1) := by decide +kernel
theorem dX10_take_1 : decode cX10_take 1 = .ok (.istore_n 2, 1) := by decide +kernel
theorem dX10_take_2 : decode cX10_take 2 = .ok (.iload_n 2, 1) := by decide +kernel
theorem dX10_take_3 : decode cX10_take 3 = .ok (.iconst 3, 1) := by decide +kernel
theorem dX10_take_4 : decode cX10_take 4 = .ok (.if_icmp .ge 41, 3) := by decide +kernel
theorem dX10_take_7 : decode cX10_take 7 = .ok (.aload_n 0, 1) := by decide +kernel
theorem dX10_take_8 : decode cX10_take 8 = .ok (.getfield 96, 3) := by decide +kernel
theorem dX10_take_11 : decode cX10_take 11 = .ok (.iload_n 2, 1) := by decide +kernel
theorem dX10_take_12 : decode cX10_take 12 = .ok (.aload_n 0, 1) := by decide +kernel
theorem dX10_take_13 : decode cX10_take 13 = .ok (.getfield 72, 3) := by decide +kernel
theorem dX10_take_16 : decode cX10_take 16 = .ok (.iconst 3, 1) := by decide +kernel
theorem dX10_take_17 : decode cX10_take 17 = .ok (.iload_n 1, 1) := by decide +kernel
theorem dX10_take_18 : decode cX10_take 18 = .ok (.imul, 1) := by decide +kernel
theorem dX10_take_19 : decode cX10_take 19 = .ok (.iload_n 2, 1) := by decide +kernel
theorem dX10_take_20 : decode cX10_take 20 = .ok (.iadd, 1) := by decide +kernel
theorem dX10_take_21 : decode cX10_take 21 = .ok (.iaload, 1) := by decide +kernel
theorem dX10_take_22 : decode cX10_take 22 = .ok (.iastore, 1) := by decide +kernel
theorem dX10_take_23 : decode cX10_take 23 = .ok (.aload_n 0, 1) := by decide +kernel
theorem dX10_take_24 : decode cX10_take 24 = .ok (.getfield 99, 3) := by decide +kernel
theorem dX10_take_27 : decode cX10_take 27 = .ok (.iload_n 2, 1) := by decide +kernel
theorem dX10_take_28 : decode cX10_take 28 = .ok (.aload_n 0, 1) := by decide +kernel
theorem dX10_take_29 : decode cX10_take 29 = .ok (.getfield 75, 3) := by decide +kernel
theorem dX10_take_32 : decode cX10_take 32 = .ok (.iconst 3, 1) := by decide +kernel
theorem dX10_take_33 : decode cX10_take 33 = .ok (.iload_n 1, 1) := by decide +kernel
theorem dX10_take_34 : decode cX10_take 34 = .ok (.imul, 1) := by decide +kernel
theorem dX10_take_35 : decode cX10_take 35 = .ok (.iload_n 2, 1) := by decide +kernel
theorem dX10_take_36 : decode cX10_take 36 = .ok (.iadd, 1) := by decide +kernel
theorem dX10_take_37 : decode cX10_take 37 = .ok (.laload, 1) := by decide +kernel
theorem dX10_take_38 : decode cX10_take 38 = .ok (.lastore, 1) := by decide +kernel
theorem dX10_take_39 : decode cX10_take 39 = .ok (.iinc 2 1, 3) := by decide +kernel
theorem dX10_take_42 : decode cX10_take 42 = .ok (.goto (-40), 3) := by decide +kernel
theorem dX10_take_45 : decode cX10_take 45 = .ok (.aload_n 0, 1) := by decide +kernel
theorem dX10_take_46 : decode cX10_take 46 = .ok (.dup, 1) := by decide +kernel
theorem dX10_take_47 : decode cX10_take 47 = .ok (.getfield 133, 3) := by decide +kernel
theorem dX10_take_50 : decode cX10_take 50 = .ok (.iconst 1, 1) := by decide +kernel
theorem dX10_take_51 : decode cX10_take 51 = .ok (.isub, 1) := by decide +kernel
theorem dX10_take_52 : decode cX10_take 52 = .ok (.putfield 133, 3) := by decide +kernel
theorem dX10_take_55 : decode cX10_take 55 = .ok (.iload_n 1, 1) := by decide +kernel
theorem dX10_take_56 : decode cX10_take 56 = .ok (.istore_n 2, 1) := by decide +kernel
theorem dX10_take_57 : decode cX10_take 57 = .ok (.iload_n 2, 1) := by decide +kernel
theorem dX10_take_58 : decode cX10_take 58 = .ok (.aload_n 0, 1) := by decide +kernel
theorem dX10_take_59 : decode cX10_take 59 = .ok (.getfield 133, 3) := by decide +kernel
theorem dX10_take_62 : decode cX10_take 62 = .ok (.if_icmp .ge 94, 3) := by decide +kernel
theorem dX10_take_65 : decode cX10_take 65 = .ok (.aload_n 0, 1) := by decide +kernel
theorem dX10_take_66 : decode cX10_take 66 = .ok (.getfield 66, 3) := by decide +kernel
theorem dX10_take_69 : decode cX10_take 69 = .ok (.iload_n 2, 1) := by decide +kernel
theorem dX10_take_70 : decode cX10_take 70 = .ok (.aload_n 0, 1) := by decide +kernel
theorem dX10_take_71 : decode cX10_take 71 = .ok (.getfield 66, 3) := by decide +kernel
theorem dX10_take_74 : decode cX10_take 74 = .ok (.iload_n 2, 1) := by decide +kernel
theorem dX10_take_75 : decode cX10_take 75 = .ok (.iconst 1, 1) := by decide +kernel
theorem dX10_take_76 : decode cX10_take 76 = .ok (.iadd, 1) := by decide +kernel
theorem dX10_take_77 : decode cX10_take 77 = .ok (.iaload, 1) := by decide +kernel
theorem dX10_take_78 : decode cX10_take 78 = .ok (.iastore, 1) := by decide +kernel
theorem dX10_take_79 : decode cX10_take 79 = .ok (.aload_n 0, 1) := by decide +kernel
theorem dX10_take_80 : decode cX10_take 80 = .ok (.getfield 69, 3) := by decide +kernel
theorem dX10_take_83 : decode cX10_take 83 = .ok (.iload_n 2, 1) := by decide +kernel
theorem dX10_take_84 : decode cX10_take 84 = .ok (.aload_n 0, 1) := by decide +kernel
theorem dX10_take_85 : decode cX10_take 85 = .ok (.getfield 69, 3) := by decide +kernel
theorem dX10_take_88 : decode cX10_take 88 = .ok (.iload_n 2, 1) := by decide +kernel
theorem dX10_take_89 : decode cX10_take 89 = .ok (.iconst 1, 1) := by decide +kernel
theorem dX10_take_90 : decode cX10_take 90 = .ok (.iadd, 1) := by decide +kernel
theorem dX10_take_91 : decode cX10_take 91 = .ok (.iaload, 1) := by decide +kernel
theorem dX10_take_92 : decode cX10_take 92 = .ok (.iastore, 1) := by decide +kernel
theorem dX10_take_93 : decode cX10_take 93 = .ok (.iconst 0, 1) := by decide +kernel
theorem dX10_take_94 : decode cX10_take 94 = .ok (.istore_n 3, 1) := by decide +kernel
theorem dX10_take_95 : decode cX10_take 95 = .ok (.iload_n 3, 1) := by decide +kernel
theorem dX10_take_96 : decode cX10_take 96 = .ok (.iconst 3, 1) := by decide +kernel
theorem dX10_take_97 : decode cX10_take 97 = .ok (.if_icmp .ge 53, 3) := by decide +kernel
theorem dX10_take_100 : decode cX10_take 100 = .ok (.aload_n 0, 1) := by decide +kernel
theorem dX10_take_101 : decode cX10_take 101 = .ok (.getfield 72, 3) := by decide +kernel
theorem dX10_take_104 : decode cX10_take 104 = .ok (.iconst 3, 1) := by decide +kernel
theorem dX10_take_105 : decode cX10_take 105 = .ok (.iload_n 2, 1) := by decide +kernel
theorem dX10_take_106 : decode cX10_take 106 = .ok (.imul, 1) := by decide +kernel
theorem dX10_take_107 : decode cX10_take 107 = .ok (.iload_n 3, 1) := by decide +kernel
theorem dX10_take_108 : decode cX10_take 108 = .ok (.iadd, 1) := by decide +kernel
theorem dX10_take_109 : decode cX10_take 109 = .ok (.aload_n 0, 1) := by decide +kernel
theorem dX10_take_110 : decode cX10_take 110 = .ok (.getfield 72, 3) := by decide +kernel
theorem dX10_take_113 : decode cX10_take 113 = .ok (.iconst 3, 1) := by decide +kernel
theorem dX10_take_114 : decode cX10_take 114 = .ok (.iload_n 2, 1) := by decide +kernel
theorem dX10_take_115 : decode cX10_take 115 = .ok (.imul, 1) := by decide +kernel
theorem dX10_take_116 : decode cX10_take 116 = .ok (.iconst 3, 1) := by decide +kernel
theorem dX10_take_117 : decode cX10_take 117 = .ok (.iadd, 1) := by decide +kernel
theorem dX10_take_118 : decode cX10_take 118 = .ok (.iload_n 3, 1) := by decide +kernel
theorem dX10_take_119 : decode cX10_take 119 = .ok (.iadd, 1) := by decide +kernel
theorem dX10_take_120 : decode cX10_take 120 = .ok (.iaload, 1) := by decide +kernel
theorem dX10_take_121 : decode cX10_take 121 = .ok (.iastore, 1) := by decide +kernel
theorem dX10_take_122 : decode cX10_take 122 = .ok (.aload_n 0, 1) := by decide +kernel
theorem dX10_take_123 : decode cX10_take 123 = .ok (.getfield 75, 3) := by decide +kernel
theorem dX10_take_126 : decode cX10_take 126 = .ok (.iconst 3, 1) := by decide +kernel
theorem dX10_take_127 : decode cX10_take 127 = .ok (.iload_n 2, 1) := by decide +kernel
theorem dX10_take_128 : decode cX10_take 128 = .ok (.imul, 1) := by decide +kernel
theorem dX10_take_129 : decode cX10_take 129 = .ok (.iload_n 3, 1) := by decide +kernel
theorem dX10_take_130 : decode cX10_take 130 = .ok (.iadd, 1) := by decide +kernel
theorem dX10_take_131 : decode cX10_take 131 = .ok (.aload_n 0, 1) := by decide +kernel
theorem dX10_take_132 : decode cX10_take 132 = .ok (.getfield 75, 3) := by decide +kernel
theorem dX10_take_135 : decode cX10_take 135 = .ok (.iconst 3, 1) := by decide +kernel
theorem dX10_take_136 : decode cX10_take 136 = .ok (.iload_n 2, 1) := by decide +kernel
theorem dX10_take_137 : decode cX10_take 137 = .ok (.imul, 1) := by decide +kernel
theorem dX10_take_138 : decode cX10_take 138 = .ok (.iconst 3, 1) := by decide +kernel
theorem dX10_take_139 : decode cX10_take 139 = .ok (.iadd, 1) := by decide +kernel
theorem dX10_take_140 : decode cX10_take 140 = .ok (.iload_n 3, 1) := by decide +kernel
theorem dX10_take_141 : decode cX10_take 141 = .ok (.iadd, 1) := by decide +kernel
theorem dX10_take_142 : decode cX10_take 142 = .ok (.laload, 1) := by decide +kernel
theorem dX10_take_143 : decode cX10_take 143 = .ok (.lastore, 1) := by decide +kernel
theorem dX10_take_144 : decode cX10_take 144 = .ok (.iinc 3 1, 3) := by decide +kernel
theorem dX10_take_147 : decode cX10_take 147 = .ok (.goto (-52), 3) := by decide +kernel
theorem dX10_take_150 : decode cX10_take 150 = .ok (.iinc 2 1, 3) := by decide +kernel
theorem dX10_take_153 : decode cX10_take 153 = .ok (.goto (-96), 3) := by decide +kernel
theorem dX10_take_156 : decode cX10_take 156 = .ok (.return_, 1) := by decide +kernel
theorem dX10_go_0 : decode cX10_go 0 = .ok (.aload_n 0, 1) := by decide +kernel
theorem dX10_go_1 : decode cX10_go 1 = .ok (.getfield 66, 3) := by decide +kernel
theorem dX10_go_4 : decode cX10_go 4 = .ok (.iload_n 1, 1) := by decide +kernel
theorem dX10_go_5 : decode cX10_go 5 = .ok (.iaload, 1) := by decide +kernel
theorem dX10_go_6 : decode cX10_go 6 = .ok (.istore_n 2, 1) := by decide +kernel
theorem dX10_go_7 : decode cX10_go 7 = .ok (.aload_n 0, 1) := by decide +kernel
theorem dX10_go_8 : decode cX10_go 8 = .ok (.getfield 69, 3) := by decide +kernel
theorem dX10_go_11 : decode cX10_go 11 = .ok (.iload_n 1, 1) := by decide +kernel
theorem dX10_go_12 : decode cX10_go 12 = .ok (.iaload, 1) := by decide +kernel
theorem dX10_go_13 : decode cX10_go 13 = .ok (.istore_n 3, 1) := by decide +kernel
theorem dX10_go_14 : decode cX10_go 14 = .ok (.aload_n 0, 1) := by decide +kernel
theorem dX10_go_15 : decode cX10_go 15 = .ok (.iload_n 1, 1) := by decide +kernel
theorem dX10_go_16 : decode cX10_go 16 = .ok (.invokevirtual 150, 3) := by decide +kernel
theorem dX10_go_19 : decode cX10_go 19 = .ok (.aload_n 0, 1) := by decide +kernel
theorem dX10_go_20 : decode cX10_go 20 = .ok (.getfield 7, 3) := by decide +kernel
theorem dX10_go_23 : decode cX10_go 23 = .ok (.iload_n 2, 1) := by decide +kernel
theorem dX10_go_24 : decode cX10_go 24 = .ok (.iaload, 1) := by decide +kernel
theorem dX10_go_25 : decode cX10_go 25 = .ok (.istore 4, 2) := by decide +kernel
theorem dX10_go_27 : decode cX10_go 27 = .ok (.iload 4, 2) := by decide +kernel
theorem dX10_go_29 : decode cX10_go 29 = .ok (.ifCond .ne 25, 3) := by decide +kernel
theorem dX10_go_32 : decode cX10_go 32 = .ok (.aload_n 0, 1) := by decide +kernel
theorem dX10_go_33 : decode cX10_go 33 = .ok (.iload_n 2, 1) := by decide +kernel
theorem dX10_go_34 : decode cX10_go 34 = .ok (.iconst 0, 1) := by decide +kernel
theorem dX10_go_35 : decode cX10_go 35 = .ok (.iload_n 3, 1) := by decide +kernel
theorem dX10_go_36 : decode cX10_go 36 = .ok (.aload_n 0, 1) := by decide +kernel
theorem dX10_go_37 : decode cX10_go 37 = .ok (.getfield 96, 3) := by decide +kernel
theorem dX10_go_40 : decode cX10_go 40 = .ok (.iconst 0, 1) := by decide +kernel
theorem dX10_go_41 : decode cX10_go 41 = .ok (.iaload, 1) := by decide +kernel
theorem dX10_go_42 : decode cX10_go 42 = .ok (.aload_n 0, 1) := by decide +kernel
theorem dX10_go_43 : decode cX10_go 43 = .ok (.getfield 99, 3) := by decide +kernel
theorem dX10_go_46 : decode cX10_go 46 = .ok (.iconst 0, 1) := by decide +kernel
theorem dX10_go_47 : decode cX10_go 47 = .ok (.laload, 1) := by decide +kernel
theorem dX10_go_48 : decode cX10_go 48 = .ok (.invokevirtual 147, 3) := by decide +kernel
theorem dX10_go_51 : decode cX10_go 51 = .ok (.goto 161, 3) := by decide +kernel
theorem dX10_go_54 : decode cX10_go 54 = .ok (.iload 4, 2) := by decide +kernel
theorem dX10_go_56 : decode cX10_go 56 = .ok (.iconst 5, 1) := by decide +kernel
theorem dX10_go_57 : decode cX10_go 57 = .ok (.if_icmp .gt 12, 3) := by decide +kernel
theorem dX10_go_60 : decode cX10_go 60 = .ok (.aload_n 0, 1) := by decide +kernel
theorem dX10_go_61 : decode cX10_go 61 = .ok (.iload_n 2, 1) := by decide +kernel
theorem dX10_go_62 : decode cX10_go 62 = .ok (.iload_n 3, 1) := by decide +kernel
theorem dX10_go_63 : decode cX10_go 63 = .ok (.invokevirtual 154, 3) := by decide +kernel
theorem dX10_go_66 : decode cX10_go 66 = .ok (.goto 146, 3) := by decide +kernel
theorem dX10_go_69 : decode cX10_go 69 = .ok (.iload 4, 2) := by decide +kernel
theorem dX10_go_71 : decode cX10_go 71 = .ok (.bipush 6, 2) := by decide +kernel
theorem dX10_go_73 : decode cX10_go 73 = .ok (.if_icmp .ne 54, 3) := by decide +kernel
theorem dX10_go_76 : decode cX10_go 76 = .ok (.aload_n 0, 1) := by decide +kernel
theorem dX10_go_77 : decode cX10_go 77 = .ok (.iload_n 2, 1) := by decide +kernel
theorem dX10_go_78 : decode cX10_go 78 = .ok (.iconst 0, 1) := by decide +kernel
theorem dX10_go_79 : decode cX10_go 79 = .ok (.iload_n 3, 1) := by decide +kernel
theorem dX10_go_80 : decode cX10_go 80 = .ok (.aload_n 0, 1) := by decide +kernel
theorem dX10_go_81 : decode cX10_go 81 = .ok (.getfield 96, 3) := by decide +kernel
theorem dX10_go_84 : decode cX10_go 84 = .ok (.iconst 0, 1) := by decide +kernel
theorem dX10_go_85 : decode cX10_go 85 = .ok (.iaload, 1) := by decide +kernel
theorem dX10_go_86 : decode cX10_go 86 = .ok (.iconst 1, 1) := by decide +kernel
theorem dX10_go_87 : decode cX10_go 87 = .ok (.if_icmp .ne 7, 3) := by decide +kernel
theorem dX10_go_90 : decode cX10_go 90 = .ok (.iconst 1, 1) := by decide +kernel
theorem dX10_go_91 : decode cX10_go 91 = .ok (.goto 4, 3) := by decide +kernel
theorem dX10_go_94 : decode cX10_go 94 = .ok (.iconst 0, 1) := by decide +kernel
theorem dX10_go_95 : decode cX10_go 95 = .ok (.aload_n 0, 1) := by decide +kernel
theorem dX10_go_96 : decode cX10_go 96 = .ok (.getfield 96, 3) := by decide +kernel
theorem dX10_go_99 : decode cX10_go 99 = .ok (.iconst 0, 1) := by decide +kernel
theorem dX10_go_100 : decode cX10_go 100 = .ok (.iaload, 1) := by decide +kernel
theorem dX10_go_101 : decode cX10_go 101 = .ok (.iconst 1, 1) := by decide +kernel
theorem dX10_go_102 : decode cX10_go 102 = .ok (.if_icmp .ne 12, 3) := by decide +kernel
theorem dX10_go_105 : decode cX10_go 105 = .ok (.aload_n 0, 1) := by decide +kernel
theorem dX10_go_106 : decode cX10_go 106 = .ok (.getfield 99, 3) := by decide +kernel
theorem dX10_go_109 : decode cX10_go 109 = .ok (.iconst 0, 1) := by decide +kernel
theorem dX10_go_110 : decode cX10_go 110 = .ok (.laload, 1) := by decide +kernel
theorem dX10_go_111 : decode cX10_go 111 = .ok (.goto 10, 3) := by decide +kernel
theorem dX10_go_114 : decode cX10_go 114 = .ok (.aload_n 0, 1) := by decide +kernel
theorem dX10_go_115 : decode cX10_go 115 = .ok (.getfield 13, 3) := by decide +kernel
theorem dX10_go_118 : decode cX10_go 118 = .ok (.iload_n 2, 1) := by decide +kernel
theorem dX10_go_119 : decode cX10_go 119 = .ok (.iaload, 1) := by decide +kernel
theorem dX10_go_120 : decode cX10_go 120 = .ok (.i2l, 1) := by decide +kernel
theorem dX10_go_121 : decode cX10_go 121 = .ok (.invokevirtual 147, 3) := by decide +kernel
theorem dX10_go_124 : decode cX10_go 124 = .ok (.goto 88, 3) := by decide +kernel
theorem dX10_go_127 : decode cX10_go 127 = .ok (.iload 4, 2) := by decide +kernel
theorem dX10_go_129 : decode cX10_go 129 = .ok (.bipush 7, 2) := by decide +kernel
theorem dX10_go_131 : decode cX10_go 131 = .ok (.if_icmp .ne 12, 3) := by decide +kernel
theorem dX10_go_134 : decode cX10_go 134 = .ok (.aload_n 0, 1) := by decide +kernel
theorem dX10_go_135 : decode cX10_go 135 = .ok (.iload_n 2, 1) := by decide +kernel
theorem dX10_go_136 : decode cX10_go 136 = .ok (.iload_n 3, 1) := by decide +kernel
theorem dX10_go_137 : decode cX10_go 137 = .ok (.invokevirtual 157, 3) := by decide +kernel
theorem dX10_go_140 : decode cX10_go 140 = .ok (.goto 72, 3) := by decide +kernel
theorem dX10_go_143 : decode cX10_go 143 = .ok (.iload 4, 2) := by decide +kernel
theorem dX10_go_145 : decode cX10_go 145 = .ok (.bipush 11, 2) := by decide +kernel
theorem dX10_go_147 : decode cX10_go 147 = .ok (.if_icmp .gt 12, 3) := by decide +kernel
theorem dX10_go_150 : decode cX10_go 150 = .ok (.aload_n 0, 1) := by decide +kernel
theorem dX10_go_151 : decode cX10_go 151 = .ok (.iload_n 2, 1) := by decide +kernel
theorem dX10_go_152 : decode cX10_go 152 = .ok (.iload_n 3, 1) := by decide +kernel
theorem dX10_go_153 : decode cX10_go 153 = .ok (.invokevirtual 160, 3) := by decide +kernel
theorem dX10_go_156 : decode cX10_go 156 = .ok (.goto 56, 3) := by decide +kernel
theorem dX10_go_159 : decode cX10_go 159 = .ok (.iload 4, 2) := by decide +kernel
theorem dX10_go_161 : decode cX10_go 161 = .ok (.bipush 13, 2) := by decide +kernel
theorem dX10_go_163 : decode cX10_go 163 = .ok (.if_icmp .gt 12, 3) := by decide +kernel
theorem dX10_go_166 : decode cX10_go 166 = .ok (.aload_n 0, 1) := by decide +kernel
theorem dX10_go_167 : decode cX10_go 167 = .ok (.iload_n 2, 1) := by decide +kernel
theorem dX10_go_168 : decode cX10_go 168 = .ok (.iload_n 3, 1) := by decide +kernel
theorem dX10_go_169 : decode cX10_go 169 = .ok (.invokevirtual 163, 3) := by decide +kernel
theorem dX10_go_172 : decode cX10_go 172 = .ok (.goto 40, 3) := by decide +kernel
theorem dX10_go_175 : decode cX10_go 175 = .ok (.iload 4, 2) := by decide +kernel
theorem dX10_go_177 : decode cX10_go 177 = .ok (.bipush 14, 2) := by decide +kernel
theorem dX10_go_179 : decode cX10_go 179 = .ok (.if_icmp .ne 12, 3) := by decide +kernel
theorem dX10_go_182 : decode cX10_go 182 = .ok (.aload_n 0, 1) := by decide +kernel
theorem dX10_go_183 : decode cX10_go 183 = .ok (.iload_n 2, 1) := by decide +kernel
theorem dX10_go_184 : decode cX10_go 184 = .ok (.iload_n 3, 1) := by decide +kernel
theorem dX10_go_185 : decode cX10_go 185 = .ok (.invokevirtual 166, 3) := by decide +kernel
theorem dX10_go_188 : decode cX10_go 188 = .ok (.goto 24, 3) := by decide +kernel
theorem dX10_go_191 : decode cX10_go 191 = .ok (.iload 4, 2) := by decide +kernel
theorem dX10_go_193 : decode cX10_go 193 = .ok (.bipush 17, 2) := by decide +kernel
theorem dX10_go_195 : decode cX10_go 195 = .ok (.if_icmp .ne 11, 3) := by decide +kernel
theorem dX10_go_198 : decode cX10_go 198 = .ok (.aload_n 0, 1) := by decide +kernel
theorem dX10_go_199 : decode cX10_go 199 = .ok (.iload_n 3, 1) := by decide +kernel
theorem dX10_go_200 : decode cX10_go 200 = .ok (.invokevirtual 169, 3) := by decide +kernel
theorem dX10_go_203 : decode cX10_go 203 = .ok (.goto 9, 3) := by decide +kernel
theorem dX10_go_206 : decode cX10_go 206 = .ok (.aload_n 0, 1) := by decide +kernel
theorem dX10_go_207 : decode cX10_go 207 = .ok (.iload_n 2, 1) := by decide +kernel
theorem dX10_go_208 : decode cX10_go 208 = .ok (.iload_n 3, 1) := by decide +kernel
theorem dX10_go_209 : decode cX10_go 209 = .ok (.invokevirtual 172, 3) := by decide +kernel
theorem dX10_go_212 : decode cX10_go 212 = .ok (.return_, 1) := by decide +kernel
theorem dX10_keepResult_0 : decode cX10_keepResult 0 = .ok (.aload_n 0, 1) := by decide +kernel
theorem dX10_keepResult_1 : decode cX10_keepResult 1 = .ok (.getfield 87, 3) := by decide +kernel
theorem dX10_keepResult_4 : decode cX10_keepResult 4 = .ok (.aload_n 0, 1) := by decide +kernel
theorem dX10_keepResult_5 : decode cX10_keepResult 5 = .ok (.getfield 175, 3) := by decide +kernel
theorem dX10_keepResult_8 : decode cX10_keepResult 8 = .ok (.aload_n 0, 1) := by decide +kernel
theorem dX10_keepResult_9 : decode cX10_keepResult 9 = .ok (.getfield 96, 3) := by decide +kernel
theorem dX10_keepResult_12 : decode cX10_keepResult 12 = .ok (.iconst 0, 1) := by decide +kernel
theorem dX10_keepResult_13 : decode cX10_keepResult 13 = .ok (.iaload, 1) := by decide +kernel
theorem dX10_keepResult_14 : decode cX10_keepResult 14 = .ok (.iastore, 1) := by decide +kernel
theorem dX10_keepResult_15 : decode cX10_keepResult 15 = .ok (.aload_n 0, 1) := by decide +kernel
theorem dX10_keepResult_16 : decode cX10_keepResult 16 = .ok (.getfield 90, 3) := by decide +kernel
theorem dX10_keepResult_19 : decode cX10_keepResult 19 = .ok (.aload_n 0, 1) := by decide +kernel
theorem dX10_keepResult_20 : decode cX10_keepResult 20 = .ok (.getfield 175, 3) := by decide +kernel
theorem dX10_keepResult_23 : decode cX10_keepResult 23 = .ok (.aload_n 0, 1) := by decide +kernel
theorem dX10_keepResult_24 : decode cX10_keepResult 24 = .ok (.getfield 99, 3) := by decide +kernel
theorem dX10_keepResult_27 : decode cX10_keepResult 27 = .ok (.iconst 0, 1) := by decide +kernel
theorem dX10_keepResult_28 : decode cX10_keepResult 28 = .ok (.laload, 1) := by decide +kernel
theorem dX10_keepResult_29 : decode cX10_keepResult 29 = .ok (.lastore, 1) := by decide +kernel
theorem dX10_keepResult_30 : decode cX10_keepResult 30 = .ok (.aload_n 0, 1) := by decide +kernel
theorem dX10_keepResult_31 : decode cX10_keepResult 31 = .ok (.getfield 93, 3) := by decide +kernel
theorem dX10_keepResult_34 : decode cX10_keepResult 34 = .ok (.aload_n 0, 1) := by decide +kernel
theorem dX10_keepResult_35 : decode cX10_keepResult 35 = .ok (.getfield 175, 3) := by decide +kernel
theorem dX10_keepResult_38 : decode cX10_keepResult 38 = .ok (.iload_n 1, 1) := by decide +kernel
theorem dX10_keepResult_39 : decode cX10_keepResult 39 = .ok (.iastore, 1) := by decide +kernel
theorem dX10_keepResult_40 : decode cX10_keepResult 40 = .ok (.aload_n 0, 1) := by decide +kernel
theorem dX10_keepResult_41 : decode cX10_keepResult 41 = .ok (.dup, 1) := by decide +kernel
theorem dX10_keepResult_42 : decode cX10_keepResult 42 = .ok (.getfield 175, 3) := by decide +kernel
theorem dX10_keepResult_45 : decode cX10_keepResult 45 = .ok (.iconst 1, 1) := by decide +kernel
theorem dX10_keepResult_46 : decode cX10_keepResult 46 = .ok (.iadd, 1) := by decide +kernel
theorem dX10_keepResult_47 : decode cX10_keepResult 47 = .ok (.putfield 175, 3) := by decide +kernel
theorem dX10_keepResult_50 : decode cX10_keepResult 50 = .ok (.return_, 1) := by decide +kernel
theorem dX10_reckon_0 : decode cX10_reckon 0 = .ok (.aload_n 0, 1) := by decide +kernel
theorem dX10_reckon_1 : decode cX10_reckon 1 = .ok (.iconst 2, 1) := by decide +kernel
theorem dX10_reckon_2 : decode cX10_reckon 2 = .ok (.invokevirtual 178, 3) := by decide +kernel
theorem dX10_reckon_5 : decode cX10_reckon 5 = .ok (.istore_n 3, 1) := by decide +kernel
theorem dX10_reckon_6 : decode cX10_reckon 6 = .ok (.iload_n 3, 1) := by decide +kernel
theorem dX10_reckon_7 : decode cX10_reckon 7 = .ok (.ifCond .ne 25, 3) := by decide +kernel
theorem dX10_reckon_10 : decode cX10_reckon 10 = .ok (.aload_n 0, 1) := by decide +kernel
theorem dX10_reckon_11 : decode cX10_reckon 11 = .ok (.getfield 96, 3) := by decide +kernel
theorem dX10_reckon_14 : decode cX10_reckon 14 = .ok (.iconst 0, 1) := by decide +kernel
theorem dX10_reckon_15 : decode cX10_reckon 15 = .ok (.iaload, 1) := by decide +kernel
theorem dX10_reckon_16 : decode cX10_reckon 16 = .ok (.iconst 2, 1) := by decide +kernel
theorem dX10_reckon_17 : decode cX10_reckon 17 = .ok (.if_icmp .eq 13, 3) := by decide +kernel
theorem dX10_reckon_20 : decode cX10_reckon 20 = .ok (.aload_n 0, 1) := by decide +kernel
theorem dX10_reckon_21 : decode cX10_reckon 21 = .ok (.getfield 96, 3) := by decide +kernel
theorem dX10_reckon_24 : decode cX10_reckon 24 = .ok (.iconst 1, 1) := by decide +kernel
theorem dX10_reckon_25 : decode cX10_reckon 25 = .ok (.iaload, 1) := by decide +kernel
theorem dX10_reckon_26 : decode cX10_reckon 26 = .ok (.iconst 2, 1) := by decide +kernel
theorem dX10_reckon_27 : decode cX10_reckon 27 = .ok (.if_icmp .ne 5, 3) := by decide +kernel
theorem dX10_reckon_30 : decode cX10_reckon 30 = .ok (.iconst 4, 1) := by decide +kernel
theorem dX10_reckon_31 : decode cX10_reckon 31 = .ok (.istore_n 3, 1) := by decide +kernel
theorem dX10_reckon_32 : decode cX10_reckon 32 = .ok (.iload_n 3, 1) := by decide +kernel
theorem dX10_reckon_33 : decode cX10_reckon 33 = .ok (.ifCond .ne 26, 3) := by decide +kernel
theorem dX10_reckon_36 : decode cX10_reckon 36 = .ok (.aload_n 0, 1) := by decide +kernel
theorem dX10_reckon_37 : decode cX10_reckon 37 = .ok (.getfield 7, 3) := by decide +kernel
theorem dX10_reckon_40 : decode cX10_reckon 40 = .ok (.iload_n 1, 1) := by decide +kernel
theorem dX10_reckon_41 : decode cX10_reckon 41 = .ok (.iaload, 1) := by decide +kernel
theorem dX10_reckon_42 : decode cX10_reckon 42 = .ok (.iconst 4, 1) := by decide +kernel
theorem dX10_reckon_43 : decode cX10_reckon 43 = .ok (.if_icmp .ne 16, 3) := by decide +kernel
theorem dX10_reckon_46 : decode cX10_reckon 46 = .ok (.aload_n 0, 1) := by decide +kernel
theorem dX10_reckon_47 : decode cX10_reckon 47 = .ok (.getfield 99, 3) := by decide +kernel
theorem dX10_reckon_50 : decode cX10_reckon 50 = .ok (.iconst 1, 1) := by decide +kernel
theorem dX10_reckon_51 : decode cX10_reckon 51 = .ok (.laload, 1) := by decide +kernel
theorem dX10_reckon_52 : decode cX10_reckon 52 = .ok (.lconst 0, 1) := by decide +kernel
theorem dX10_reckon_53 : decode cX10_reckon 53 = .ok (.lcmp, 1) := by decide +kernel
theorem dX10_reckon_54 : decode cX10_reckon 54 = .ok (.ifCond .ne 5, 3) := by decide +kernel
theorem dX10_reckon_57 : decode cX10_reckon 57 = .ok (.iconst 1, 1) := by decide +kernel
theorem dX10_reckon_58 : decode cX10_reckon 58 = .ok (.istore_n 3, 1) := by decide +kernel
theorem dX10_reckon_59 : decode cX10_reckon 59 = .ok (.iload_n 3, 1) := by decide +kernel
theorem dX10_reckon_60 : decode cX10_reckon 60 = .ok (.ifCond .le 11, 3) := by decide +kernel
theorem dX10_reckon_63 : decode cX10_reckon 63 = .ok (.aload_n 0, 1) := by decide +kernel
theorem dX10_reckon_64 : decode cX10_reckon 64 = .ok (.iload_n 1, 1) := by decide +kernel
theorem dX10_reckon_65 : decode cX10_reckon 65 = .ok (.iload_n 2, 1) := by decide +kernel
theorem dX10_reckon_66 : decode cX10_reckon 66 = .ok (.iload_n 3, 1) := by decide +kernel
theorem dX10_reckon_67 : decode cX10_reckon 67 = .ok (.invokevirtual 181, 3) := by decide +kernel
theorem dX10_reckon_70 : decode cX10_reckon 70 = .ok (.return_, 1) := by decide +kernel
theorem dX10_reckon_71 : decode cX10_reckon 71 = .ok (.aload_n 0, 1) := by decide +kernel
theorem dX10_reckon_72 : decode cX10_reckon 72 = .ok (.getfield 99, 3) := by decide +kernel
theorem dX10_reckon_75 : decode cX10_reckon 75 = .ok (.iconst 0, 1) := by decide +kernel
theorem dX10_reckon_76 : decode cX10_reckon 76 = .ok (.laload, 1) := by decide +kernel
theorem dX10_reckon_77 : decode cX10_reckon 77 = .ok (.lstore 4, 2) := by decide +kernel
theorem dX10_reckon_79 : decode cX10_reckon 79 = .ok (.aload_n 0, 1) := by decide +kernel
theorem dX10_reckon_80 : decode cX10_reckon 80 = .ok (.getfield 99, 3) := by decide +kernel
theorem dX10_reckon_83 : decode cX10_reckon 83 = .ok (.iconst 1, 1) := by decide +kernel
theorem dX10_reckon_84 : decode cX10_reckon 84 = .ok (.laload, 1) := by decide +kernel
theorem dX10_reckon_85 : decode cX10_reckon 85 = .ok (.lstore 6, 2) := by decide +kernel
theorem dX10_reckon_87 : decode cX10_reckon 87 = .ok (.aload_n 0, 1) := by decide +kernel
theorem dX10_reckon_88 : decode cX10_reckon 88 = .ok (.getfield 7, 3) := by decide +kernel
theorem dX10_reckon_91 : decode cX10_reckon 91 = .ok (.iload_n 1, 1) := by decide +kernel
theorem dX10_reckon_92 : decode cX10_reckon 92 = .ok (.iaload, 1) := by decide +kernel
theorem dX10_reckon_93 : decode cX10_reckon 93 = .ok (.tableswitch 86 1 4 #[31, 41, 51, 61], 31) := by decide +kernel
theorem dX10_reckon_124 : decode cX10_reckon 124 = .ok (.lload 4, 2) := by decide +kernel
theorem dX10_reckon_126 : decode cX10_reckon 126 = .ok (.lload 6, 2) := by decide +kernel
theorem dX10_reckon_128 : decode cX10_reckon 128 = .ok (.ladd, 1) := by decide +kernel
theorem dX10_reckon_129 : decode cX10_reckon 129 = .ok (.lstore 8, 2) := by decide +kernel
theorem dX10_reckon_131 : decode cX10_reckon 131 = .ok (.goto 63, 3) := by decide +kernel
theorem dX10_reckon_134 : decode cX10_reckon 134 = .ok (.lload 4, 2) := by decide +kernel
theorem dX10_reckon_136 : decode cX10_reckon 136 = .ok (.lload 6, 2) := by decide +kernel
theorem dX10_reckon_138 : decode cX10_reckon 138 = .ok (.lsub, 1) := by decide +kernel
theorem dX10_reckon_139 : decode cX10_reckon 139 = .ok (.lstore 8, 2) := by decide +kernel
theorem dX10_reckon_141 : decode cX10_reckon 141 = .ok (.goto 53, 3) := by decide +kernel
theorem dX10_reckon_144 : decode cX10_reckon 144 = .ok (.lload 4, 2) := by decide +kernel
theorem dX10_reckon_146 : decode cX10_reckon 146 = .ok (.lload 6, 2) := by decide +kernel
theorem dX10_reckon_148 : decode cX10_reckon 148 = .ok (.lmul, 1) := by decide +kernel
theorem dX10_reckon_149 : decode cX10_reckon 149 = .ok (.lstore 8, 2) := by decide +kernel
theorem dX10_reckon_151 : decode cX10_reckon 151 = .ok (.goto 43, 3) := by decide +kernel
theorem dX10_reckon_154 : decode cX10_reckon 154 = .ok (.lload 6, 2) := by decide +kernel
theorem dX10_reckon_156 : decode cX10_reckon 156 = .ok (.ldc2_w 185, 3) := by decide +kernel
theorem dX10_reckon_159 : decode cX10_reckon 159 = .ok (.lcmp, 1) := by decide +kernel
theorem dX10_reckon_160 : decode cX10_reckon 160 = .ok (.ifCond .ne 9, 3) := by decide +kernel
theorem dX10_reckon_163 : decode cX10_reckon 163 = .ok (.lload 4, 2) := by decide +kernel
theorem dX10_reckon_165 : decode cX10_reckon 165 = .ok (.lneg, 1) := by decide +kernel
theorem dX10_reckon_166 : decode cX10_reckon 166 = .ok (.goto 8, 3) := by decide +kernel
theorem dX10_reckon_169 : decode cX10_reckon 169 = .ok (.lload 4, 2) := by decide +kernel
theorem dX10_reckon_171 : decode cX10_reckon 171 = .ok (.lload 6, 2) := by decide +kernel
theorem dX10_reckon_173 : decode cX10_reckon 173 = .ok (.ldiv, 1) := by decide +kernel
theorem dX10_reckon_174 : decode cX10_reckon 174 = .ok (.lstore 8, 2) := by decide +kernel
theorem dX10_reckon_176 : decode cX10_reckon 176 = .ok (.goto 18, 3) := by decide +kernel
theorem dX10_reckon_179 : decode cX10_reckon 179 = .ok (.lload 4, 2) := by decide +kernel
theorem dX10_reckon_181 : decode cX10_reckon 181 = .ok (.lload 6, 2) := by decide +kernel
theorem dX10_reckon_183 : decode cX10_reckon 183 = .ok (.lcmp, 1) := by decide +kernel
theorem dX10_reckon_184 : decode cX10_reckon 184 = .ok (.ifCond .ge 7, 3) := by decide +kernel
theorem dX10_reckon_187 : decode cX10_reckon 187 = .ok (.lconst 1, 1) := by decide +kernel
theorem dX10_reckon_188 : decode cX10_reckon 188 = .ok (.goto 4, 3) := by decide +kernel
theorem dX10_reckon_191 : decode cX10_reckon 191 = .ok (.lconst 0, 1) := by decide +kernel
theorem dX10_reckon_192 : decode cX10_reckon 192 = .ok (.lstore 8, 2) := by decide +kernel
theorem dX10_reckon_194 : decode cX10_reckon 194 = .ok (.aload_n 0, 1) := by decide +kernel
theorem dX10_reckon_195 : decode cX10_reckon 195 = .ok (.iload_n 1, 1) := by decide +kernel
theorem dX10_reckon_196 : decode cX10_reckon 196 = .ok (.iconst 0, 1) := by decide +kernel
theorem dX10_reckon_197 : decode cX10_reckon 197 = .ok (.iload_n 2, 1) := by decide +kernel
theorem dX10_reckon_198 : decode cX10_reckon 198 = .ok (.iconst 0, 1) := by decide +kernel
theorem dX10_reckon_199 : decode cX10_reckon 199 = .ok (.lload 8, 2) := by decide +kernel
theorem dX10_reckon_201 : decode cX10_reckon 201 = .ok (.invokevirtual 147, 3) := by decide +kernel
theorem dX10_reckon_204 : decode cX10_reckon 204 = .ok (.return_, 1) := by decide +kernel
theorem dX10_part_0 : decode cX10_part 0 = .ok (.aload_n 0, 1) := by decide +kernel
theorem dX10_part_1 : decode cX10_part 1 = .ok (.getfield 96, 3) := by decide +kernel
theorem dX10_part_4 : decode cX10_part 4 = .ok (.iconst 1, 1) := by decide +kernel
theorem dX10_part_5 : decode cX10_part 5 = .ok (.iaload, 1) := by decide +kernel
theorem dX10_part_6 : decode cX10_part 6 = .ok (.ifCond .ne 38, 3) := by decide +kernel
theorem dX10_part_9 : decode cX10_part 9 = .ok (.aload_n 0, 1) := by decide +kernel
theorem dX10_part_10 : decode cX10_part 10 = .ok (.iload_n 1, 1) := by decide +kernel
theorem dX10_part_11 : decode cX10_part 11 = .ok (.aload_n 0, 1) := by decide +kernel
theorem dX10_part_12 : decode cX10_part 12 = .ok (.getfield 99, 3) := by decide +kernel
theorem dX10_part_15 : decode cX10_part 15 = .ok (.iconst 1, 1) := by decide +kernel
theorem dX10_part_16 : decode cX10_part 16 = .ok (.laload, 1) := by decide +kernel
theorem dX10_part_17 : decode cX10_part 17 = .ok (.lconst 0, 1) := by decide +kernel
theorem dX10_part_18 : decode cX10_part 18 = .ok (.lcmp, 1) := by decide +kernel
theorem dX10_part_19 : decode cX10_part 19 = .ok (.ifCond .ne 7, 3) := by decide +kernel
theorem dX10_part_22 : decode cX10_part 22 = .ok (.iconst 0, 1) := by decide +kernel
theorem dX10_part_23 : decode cX10_part 23 = .ok (.goto 4, 3) := by decide +kernel
theorem dX10_part_26 : decode cX10_part 26 = .ok (.iconst 1, 1) := by decide +kernel
theorem dX10_part_27 : decode cX10_part 27 = .ok (.iload_n 2, 1) := by decide +kernel
theorem dX10_part_28 : decode cX10_part 28 = .ok (.aload_n 0, 1) := by decide +kernel
theorem dX10_part_29 : decode cX10_part 29 = .ok (.getfield 96, 3) := by decide +kernel
theorem dX10_part_32 : decode cX10_part 32 = .ok (.iconst 0, 1) := by decide +kernel
theorem dX10_part_33 : decode cX10_part 33 = .ok (.iaload, 1) := by decide +kernel
theorem dX10_part_34 : decode cX10_part 34 = .ok (.aload_n 0, 1) := by decide +kernel
theorem dX10_part_35 : decode cX10_part 35 = .ok (.getfield 99, 3) := by decide +kernel
theorem dX10_part_38 : decode cX10_part 38 = .ok (.iconst 0, 1) := by decide +kernel
theorem dX10_part_39 : decode cX10_part 39 = .ok (.laload, 1) := by decide +kernel
theorem dX10_part_40 : decode cX10_part 40 = .ok (.invokevirtual 147, 3) := by decide +kernel
theorem dX10_part_43 : decode cX10_part 43 = .ok (.return_, 1) := by decide +kernel
theorem dX10_part_44 : decode cX10_part 44 = .ok (.aload_n 0, 1) := by decide +kernel
theorem dX10_part_45 : decode cX10_part 45 = .ok (.getfield 96, 3) := by decide +kernel
theorem dX10_part_48 : decode cX10_part 48 = .ok (.iconst 1, 1) := by decide +kernel
theorem dX10_part_49 : decode cX10_part 49 = .ok (.iaload, 1) := by decide +kernel
theorem dX10_part_50 : decode cX10_part 50 = .ok (.iconst 1, 1) := by decide +kernel
theorem dX10_part_51 : decode cX10_part 51 = .ok (.if_icmp .ne 12, 3) := by decide +kernel
theorem dX10_part_54 : decode cX10_part 54 = .ok (.aload_n 0, 1) := by decide +kernel
theorem dX10_part_55 : decode cX10_part 55 = .ok (.getfield 99, 3) := by decide +kernel
theorem dX10_part_58 : decode cX10_part 58 = .ok (.iconst 1, 1) := by decide +kernel
theorem dX10_part_59 : decode cX10_part 59 = .ok (.laload, 1) := by decide +kernel
theorem dX10_part_60 : decode cX10_part 60 = .ok (.goto 6, 3) := by decide +kernel
theorem dX10_part_63 : decode cX10_part 63 = .ok (.ldc2_w 187, 3) := by decide +kernel
theorem dX10_part_66 : decode cX10_part 66 = .ok (.lstore_n 3, 1) := by decide +kernel
theorem dX10_part_67 : decode cX10_part 67 = .ok (.aload_n 0, 1) := by decide +kernel
theorem dX10_part_68 : decode cX10_part 68 = .ok (.iload_n 1, 1) := by decide +kernel
theorem dX10_part_69 : decode cX10_part 69 = .ok (.iconst 0, 1) := by decide +kernel
theorem dX10_part_70 : decode cX10_part 70 = .ok (.iload_n 2, 1) := by decide +kernel
theorem dX10_part_71 : decode cX10_part 71 = .ok (.iconst 1, 1) := by decide +kernel
theorem dX10_part_72 : decode cX10_part 72 = .ok (.lload_n 3, 1) := by decide +kernel
theorem dX10_part_73 : decode cX10_part 73 = .ok (.invokevirtual 147, 3) := by decide +kernel
theorem dX10_part_76 : decode cX10_part 76 = .ok (.aload_n 0, 1) := by decide +kernel
theorem dX10_part_77 : decode cX10_part 77 = .ok (.iload_n 1, 1) := by decide +kernel
theorem dX10_part_78 : decode cX10_part 78 = .ok (.iconst 1, 1) := by decide +kernel
theorem dX10_part_79 : decode cX10_part 79 = .ok (.iload_n 2, 1) := by decide +kernel
theorem dX10_part_80 : decode cX10_part 80 = .ok (.iconst 1, 1) := by decide +kernel
theorem dX10_part_81 : decode cX10_part 81 = .ok (.lload_n 3, 1) := by decide +kernel
theorem dX10_part_82 : decode cX10_part 82 = .ok (.invokevirtual 147, 3) := by decide +kernel
theorem dX10_part_85 : decode cX10_part 85 = .ok (.return_, 1) := by decide +kernel
theorem dX10_turn_0 : decode cX10_turn 0 = .ok (.aload_n 0, 1) := by decide +kernel
theorem dX10_turn_1 : decode cX10_turn 1 = .ok (.getfield 7, 3) := by decide +kernel
theorem dX10_turn_4 : decode cX10_turn 4 = .ok (.iload_n 1, 1) := by decide +kernel
theorem dX10_turn_5 : decode cX10_turn 5 = .ok (.iaload, 1) := by decide +kernel
theorem dX10_turn_6 : decode cX10_turn 6 = .ok (.istore_n 3, 1) := by decide +kernel
theorem dX10_turn_7 : decode cX10_turn 7 = .ok (.iconst 0, 1) := by decide +kernel
theorem dX10_turn_8 : decode cX10_turn 8 = .ok (.istore 4, 2) := by decide +kernel
theorem dX10_turn_10 : decode cX10_turn 10 = .ok (.iload_n 3, 1) := by decide +kernel
theorem dX10_turn_11 : decode cX10_turn 11 = .ok (.bipush 8, 2) := by decide +kernel
theorem dX10_turn_13 : decode cX10_turn 13 = .ok (.if_icmp .ne 20, 3) := by decide +kernel
theorem dX10_turn_16 : decode cX10_turn 16 = .ok (.aload_n 0, 1) := by decide +kernel
theorem dX10_turn_17 : decode cX10_turn 17 = .ok (.iload_n 2, 1) := by decide +kernel
theorem dX10_turn_18 : decode cX10_turn 18 = .ok (.aload_n 0, 1) := by decide +kernel
theorem dX10_turn_19 : decode cX10_turn 19 = .ok (.getfield 13, 3) := by decide +kernel
theorem dX10_turn_22 : decode cX10_turn 22 = .ok (.iload_n 1, 1) := by decide +kernel
theorem dX10_turn_23 : decode cX10_turn 23 = .ok (.iaload, 1) := by decide +kernel
theorem dX10_turn_24 : decode cX10_turn 24 = .ok (.iconst 0, 1) := by decide +kernel
theorem dX10_turn_25 : decode cX10_turn 25 = .ok (.invokevirtual 189, 3) := by decide +kernel
theorem dX10_turn_28 : decode cX10_turn 28 = .ok (.istore 4, 2) := by decide +kernel
theorem dX10_turn_30 : decode cX10_turn 30 = .ok (.goto 58, 3) := by decide +kernel
theorem dX10_turn_33 : decode cX10_turn 33 = .ok (.iload_n 2, 1) := by decide +kernel
theorem dX10_turn_34 : decode cX10_turn 34 = .ok (.ifCond .le 54, 3) := by decide +kernel
theorem dX10_turn_37 : decode cX10_turn 37 = .ok (.iload_n 3, 1) := by decide +kernel
theorem dX10_turn_38 : decode cX10_turn 38 = .ok (.bipush 11, 2) := by decide +kernel
theorem dX10_turn_40 : decode cX10_turn 40 = .ok (.if_icmp .ne 12, 3) := by decide +kernel
theorem dX10_turn_43 : decode cX10_turn 43 = .ok (.aload_n 0, 1) := by decide +kernel
theorem dX10_turn_44 : decode cX10_turn 44 = .ok (.getfield 32, 3) := by decide +kernel
theorem dX10_turn_47 : decode cX10_turn 47 = .ok (.iload_n 2, 1) := by decide +kernel
theorem dX10_turn_48 : decode cX10_turn 48 = .ok (.iaload, 1) := by decide +kernel
theorem dX10_turn_49 : decode cX10_turn 49 = .ok (.goto 37, 3) := by decide +kernel
theorem dX10_turn_52 : decode cX10_turn 52 = .ok (.aload_n 0, 1) := by decide +kernel
theorem dX10_turn_53 : decode cX10_turn 53 = .ok (.aload_n 0, 1) := by decide +kernel
theorem dX10_turn_54 : decode cX10_turn 54 = .ok (.getfield 32, 3) := by decide +kernel
theorem dX10_turn_57 : decode cX10_turn 57 = .ok (.iload_n 2, 1) := by decide +kernel
theorem dX10_turn_58 : decode cX10_turn 58 = .ok (.iaload, 1) := by decide +kernel
theorem dX10_turn_59 : decode cX10_turn 59 = .ok (.aload_n 0, 1) := by decide +kernel
theorem dX10_turn_60 : decode cX10_turn 60 = .ok (.getfield 35, 3) := by decide +kernel
theorem dX10_turn_63 : decode cX10_turn 63 = .ok (.iload_n 2, 1) := by decide +kernel
theorem dX10_turn_64 : decode cX10_turn 64 = .ok (.iaload, 1) := by decide +kernel
theorem dX10_turn_65 : decode cX10_turn 65 = .ok (.iload_n 3, 1) := by decide +kernel
theorem dX10_turn_66 : decode cX10_turn 66 = .ok (.bipush 9, 2) := by decide +kernel
theorem dX10_turn_68 : decode cX10_turn 68 = .ok (.if_icmp .ne 14, 3) := by decide +kernel
theorem dX10_turn_71 : decode cX10_turn 71 = .ok (.aload_n 0, 1) := by decide +kernel
theorem dX10_turn_72 : decode cX10_turn 72 = .ok (.getfield 38, 3) := by decide +kernel
theorem dX10_turn_75 : decode cX10_turn 75 = .ok (.iload_n 2, 1) := by decide +kernel
theorem dX10_turn_76 : decode cX10_turn 76 = .ok (.iaload, 1) := by decide +kernel
theorem dX10_turn_77 : decode cX10_turn 77 = .ok (.iconst 1, 1) := by decide +kernel
theorem dX10_turn_78 : decode cX10_turn 78 = .ok (.iadd, 1) := by decide +kernel
theorem dX10_turn_79 : decode cX10_turn 79 = .ok (.goto 4, 3) := by decide +kernel
theorem dX10_turn_82 : decode cX10_turn 82 = .ok (.iconst 0, 1) := by decide +kernel
theorem dX10_turn_83 : decode cX10_turn 83 = .ok (.invokevirtual 189, 3) := by decide +kernel
theorem dX10_turn_86 : decode cX10_turn 86 = .ok (.istore 4, 2) := by decide +kernel
theorem dX10_turn_88 : decode cX10_turn 88 = .ok (.iload 4, 2) := by decide +kernel
theorem dX10_turn_90 : decode cX10_turn 90 = .ok (.iconst (-1), 1) := by decide +kernel
theorem dX10_turn_91 : decode cX10_turn 91 = .ok (.if_icmp .eq 23, 3) := by decide +kernel
theorem dX10_turn_94 : decode cX10_turn 94 = .ok (.aload_n 0, 1) := by decide +kernel
theorem dX10_turn_95 : decode cX10_turn 95 = .ok (.iload_n 1, 1) := by decide +kernel
theorem dX10_turn_96 : decode cX10_turn 96 = .ok (.iconst 0, 1) := by decide +kernel
theorem dX10_turn_97 : decode cX10_turn 97 = .ok (.iload 4, 2) := by decide +kernel
theorem dX10_turn_99 : decode cX10_turn 99 = .ok (.aload_n 0, 1) := by decide +kernel
theorem dX10_turn_100 : decode cX10_turn 100 = .ok (.getfield 96, 3) := by decide +kernel
theorem dX10_turn_103 : decode cX10_turn 103 = .ok (.iconst 0, 1) := by decide +kernel
theorem dX10_turn_104 : decode cX10_turn 104 = .ok (.iaload, 1) := by decide +kernel
theorem dX10_turn_105 : decode cX10_turn 105 = .ok (.aload_n 0, 1) := by decide +kernel
theorem dX10_turn_106 : decode cX10_turn 106 = .ok (.getfield 99, 3) := by decide +kernel
theorem dX10_turn_109 : decode cX10_turn 109 = .ok (.iconst 0, 1) := by decide +kernel
theorem dX10_turn_110 : decode cX10_turn 110 = .ok (.laload, 1) := by decide +kernel
theorem dX10_turn_111 : decode cX10_turn 111 = .ok (.invokevirtual 147, 3) := by decide +kernel
theorem dX10_turn_114 : decode cX10_turn 114 = .ok (.return_, 1) := by decide +kernel
theorem dX10_callOrBack_0 : decode cX10_callOrBack 0 = .ok (.aload_n 0, 1) := by decide +kernel
theorem dX10_callOrBack_1 : decode cX10_callOrBack 1 = .ok (.getfield 7, 3) := by decide +kernel
theorem dX10_callOrBack_4 : decode cX10_callOrBack 4 = .ok (.iload_n 1, 1) := by decide +kernel
theorem dX10_callOrBack_5 : decode cX10_callOrBack 5 = .ok (.iaload, 1) := by decide +kernel
theorem dX10_callOrBack_6 : decode cX10_callOrBack 6 = .ok (.bipush 12, 2) := by decide +kernel
theorem dX10_callOrBack_8 : decode cX10_callOrBack 8 = .ok (.if_icmp .ne 57, 3) := by decide +kernel
theorem dX10_callOrBack_11 : decode cX10_callOrBack 11 = .ok (.aload_n 0, 1) := by decide +kernel
theorem dX10_callOrBack_12 : decode cX10_callOrBack 12 = .ok (.aload_n 0, 1) := by decide +kernel
theorem dX10_callOrBack_13 : decode cX10_callOrBack 13 = .ok (.getfield 13, 3) := by decide +kernel
theorem dX10_callOrBack_16 : decode cX10_callOrBack 16 = .ok (.iload_n 1, 1) := by decide +kernel
theorem dX10_callOrBack_17 : decode cX10_callOrBack 17 = .ok (.iaload, 1) := by decide +kernel
theorem dX10_callOrBack_18 : decode cX10_callOrBack 18 = .ok (.invokevirtual 116, 3) := by decide +kernel
theorem dX10_callOrBack_21 : decode cX10_callOrBack 21 = .ok (.ifCond .ne 4, 3) := by decide +kernel
theorem dX10_callOrBack_24 : decode cX10_callOrBack 24 = .ok (.return_, 1) := by decide +kernel
theorem dX10_callOrBack_25 : decode cX10_callOrBack 25 = .ok (.aload_n 0, 1) := by decide +kernel
theorem dX10_callOrBack_26 : decode cX10_callOrBack 26 = .ok (.iload_n 2, 1) := by decide +kernel
theorem dX10_callOrBack_27 : decode cX10_callOrBack 27 = .ok (.iconst (-1), 1) := by decide +kernel
theorem dX10_callOrBack_28 : decode cX10_callOrBack 28 = .ok (.iload_n 1, 1) := by decide +kernel
theorem dX10_callOrBack_29 : decode cX10_callOrBack 29 = .ok (.isub, 1) := by decide +kernel
theorem dX10_callOrBack_30 : decode cX10_callOrBack 30 = .ok (.iconst 0, 1) := by decide +kernel
theorem dX10_callOrBack_31 : decode cX10_callOrBack 31 = .ok (.invokevirtual 189, 3) := by decide +kernel
theorem dX10_callOrBack_34 : decode cX10_callOrBack 34 = .ok (.istore_n 3, 1) := by decide +kernel
theorem dX10_callOrBack_35 : decode cX10_callOrBack 35 = .ok (.iload_n 3, 1) := by decide +kernel
theorem dX10_callOrBack_36 : decode cX10_callOrBack 36 = .ok (.iconst (-1), 1) := by decide +kernel
theorem dX10_callOrBack_37 : decode cX10_callOrBack 37 = .ok (.if_icmp .eq 27, 3) := by decide +kernel
theorem dX10_callOrBack_40 : decode cX10_callOrBack 40 = .ok (.aload_n 0, 1) := by decide +kernel
theorem dX10_callOrBack_41 : decode cX10_callOrBack 41 = .ok (.aload_n 0, 1) := by decide +kernel
theorem dX10_callOrBack_42 : decode cX10_callOrBack 42 = .ok (.getfield 13, 3) := by decide +kernel
theorem dX10_callOrBack_45 : decode cX10_callOrBack 45 = .ok (.iload_n 1, 1) := by decide +kernel
theorem dX10_callOrBack_46 : decode cX10_callOrBack 46 = .ok (.iaload, 1) := by decide +kernel
theorem dX10_callOrBack_47 : decode cX10_callOrBack 47 = .ok (.iconst 0, 1) := by decide +kernel
theorem dX10_callOrBack_48 : decode cX10_callOrBack 48 = .ok (.iload_n 3, 1) := by decide +kernel
theorem dX10_callOrBack_49 : decode cX10_callOrBack 49 = .ok (.aload_n 0, 1) := by decide +kernel
theorem dX10_callOrBack_50 : decode cX10_callOrBack 50 = .ok (.getfield 96, 3) := by decide +kernel
theorem dX10_callOrBack_53 : decode cX10_callOrBack 53 = .ok (.iconst 0, 1) := by decide +kernel
theorem dX10_callOrBack_54 : decode cX10_callOrBack 54 = .ok (.iaload, 1) := by decide +kernel
theorem dX10_callOrBack_55 : decode cX10_callOrBack 55 = .ok (.aload_n 0, 1) := by decide +kernel
theorem dX10_callOrBack_56 : decode cX10_callOrBack 56 = .ok (.getfield 99, 3) := by decide +kernel
theorem dX10_callOrBack_59 : decode cX10_callOrBack 59 = .ok (.iconst 0, 1) := by decide +kernel
theorem dX10_callOrBack_60 : decode cX10_callOrBack 60 = .ok (.laload, 1) := by decide +kernel
theorem dX10_callOrBack_61 : decode cX10_callOrBack 61 = .ok (.invokevirtual 143, 3) := by decide +kernel
theorem dX10_callOrBack_64 : decode cX10_callOrBack 64 = .ok (.return_, 1) := by decide +kernel
theorem dX10_callOrBack_65 : decode cX10_callOrBack 65 = .ok (.iload_n 2, 1) := by decide +kernel
theorem dX10_callOrBack_66 : decode cX10_callOrBack 66 = .ok (.ifCond .le 14, 3) := by decide +kernel
theorem dX10_callOrBack_69 : decode cX10_callOrBack 69 = .ok (.iconst (-1), 1) := by decide +kernel
theorem dX10_callOrBack_70 : decode cX10_callOrBack 70 = .ok (.aload_n 0, 1) := by decide +kernel
theorem dX10_callOrBack_71 : decode cX10_callOrBack 71 = .ok (.getfield 35, 3) := by decide +kernel
theorem dX10_callOrBack_74 : decode cX10_callOrBack 74 = .ok (.iload_n 2, 1) := by decide +kernel
theorem dX10_callOrBack_75 : decode cX10_callOrBack 75 = .ok (.iaload, 1) := by decide +kernel
theorem dX10_callOrBack_76 : decode cX10_callOrBack 76 = .ok (.isub, 1) := by decide +kernel
theorem dX10_callOrBack_77 : decode cX10_callOrBack 77 = .ok (.goto 4, 3) := by decide +kernel
theorem dX10_callOrBack_80 : decode cX10_callOrBack 80 = .ok (.iconst (-1), 1) := by decide +kernel
theorem dX10_callOrBack_81 : decode cX10_callOrBack 81 = .ok (.istore_n 3, 1) := by decide +kernel
theorem dX10_callOrBack_82 : decode cX10_callOrBack 82 = .ok (.aload_n 0, 1) := by decide +kernel
theorem dX10_callOrBack_83 : decode cX10_callOrBack 83 = .ok (.iload_n 3, 1) := by decide +kernel
theorem dX10_callOrBack_84 : decode cX10_callOrBack 84 = .ok (.invokevirtual 116, 3) := by decide +kernel
theorem dX10_callOrBack_87 : decode cX10_callOrBack 87 = .ok (.ifCond .eq 27, 3) := by decide +kernel
theorem dX10_callOrBack_90 : decode cX10_callOrBack 90 = .ok (.aload_n 0, 1) := by decide +kernel
theorem dX10_callOrBack_91 : decode cX10_callOrBack 91 = .ok (.iload_n 3, 1) := by decide +kernel
theorem dX10_callOrBack_92 : decode cX10_callOrBack 92 = .ok (.iconst 2, 1) := by decide +kernel
theorem dX10_callOrBack_93 : decode cX10_callOrBack 93 = .ok (.aload_n 0, 1) := by decide +kernel
theorem dX10_callOrBack_94 : decode cX10_callOrBack 94 = .ok (.getfield 32, 3) := by decide +kernel
theorem dX10_callOrBack_97 : decode cX10_callOrBack 97 = .ok (.iload_n 2, 1) := by decide +kernel
theorem dX10_callOrBack_98 : decode cX10_callOrBack 98 = .ok (.iaload, 1) := by decide +kernel
theorem dX10_callOrBack_99 : decode cX10_callOrBack 99 = .ok (.aload_n 0, 1) := by decide +kernel
theorem dX10_callOrBack_100 : decode cX10_callOrBack 100 = .ok (.getfield 96, 3) := by decide +kernel
theorem dX10_callOrBack_103 : decode cX10_callOrBack 103 = .ok (.iconst 0, 1) := by decide +kernel
theorem dX10_callOrBack_104 : decode cX10_callOrBack 104 = .ok (.iaload, 1) := by decide +kernel
theorem dX10_callOrBack_105 : decode cX10_callOrBack 105 = .ok (.aload_n 0, 1) := by decide +kernel
theorem dX10_callOrBack_106 : decode cX10_callOrBack 106 = .ok (.getfield 99, 3) := by decide +kernel
theorem dX10_callOrBack_109 : decode cX10_callOrBack 109 = .ok (.iconst 0, 1) := by decide +kernel
theorem dX10_callOrBack_110 : decode cX10_callOrBack 110 = .ok (.laload, 1) := by decide +kernel
theorem dX10_callOrBack_111 : decode cX10_callOrBack 111 = .ok (.invokevirtual 147, 3) := by decide +kernel
theorem dX10_callOrBack_114 : decode cX10_callOrBack 114 = .ok (.return_, 1) := by decide +kernel
theorem dX10_make_0 : decode cX10_make 0 = .ok (.aload_n 0, 1) := by decide +kernel
theorem dX10_make_1 : decode cX10_make 1 = .ok (.iconst 1, 1) := by decide +kernel
theorem dX10_make_2 : decode cX10_make 2 = .ok (.invokevirtual 178, 3) := by decide +kernel
theorem dX10_make_5 : decode cX10_make 5 = .ok (.istore_n 3, 1) := by decide +kernel
theorem dX10_make_6 : decode cX10_make 6 = .ok (.iload_n 3, 1) := by decide +kernel
theorem dX10_make_7 : decode cX10_make 7 = .ok (.ifCond .ne 15, 3) := by decide +kernel
theorem dX10_make_10 : decode cX10_make 10 = .ok (.aload_n 0, 1) := by decide +kernel
theorem dX10_make_11 : decode cX10_make 11 = .ok (.getfield 96, 3) := by decide +kernel
theorem dX10_make_14 : decode cX10_make 14 = .ok (.iconst 0, 1) := by decide +kernel
theorem dX10_make_15 : decode cX10_make 15 = .ok (.iaload, 1) := by decide +kernel
theorem dX10_make_16 : decode cX10_make 16 = .ok (.iconst 2, 1) := by decide +kernel
theorem dX10_make_17 : decode cX10_make 17 = .ok (.if_icmp .ne 5, 3) := by decide +kernel
theorem dX10_make_20 : decode cX10_make 20 = .ok (.iconst 4, 1) := by decide +kernel
theorem dX10_make_21 : decode cX10_make 21 = .ok (.istore_n 3, 1) := by decide +kernel
theorem dX10_make_22 : decode cX10_make 22 = .ok (.iload_n 3, 1) := by decide +kernel
theorem dX10_make_23 : decode cX10_make 23 = .ok (.ifCond .ne 29, 3) := by decide +kernel
theorem dX10_make_26 : decode cX10_make 26 = .ok (.aload_n 0, 1) := by decide +kernel
theorem dX10_make_27 : decode cX10_make 27 = .ok (.getfield 99, 3) := by decide +kernel
theorem dX10_make_30 : decode cX10_make 30 = .ok (.iconst 0, 1) := by decide +kernel
theorem dX10_make_31 : decode cX10_make 31 = .ok (.laload, 1) := by decide +kernel
theorem dX10_make_32 : decode cX10_make 32 = .ok (.lconst 0, 1) := by decide +kernel
theorem dX10_make_33 : decode cX10_make 33 = .ok (.lcmp, 1) := by decide +kernel
theorem dX10_make_34 : decode cX10_make 34 = .ok (.ifCond .lt 16, 3) := by decide +kernel
theorem dX10_make_37 : decode cX10_make 37 = .ok (.aload_n 0, 1) := by decide +kernel
theorem dX10_make_38 : decode cX10_make 38 = .ok (.getfield 99, 3) := by decide +kernel
theorem dX10_make_41 : decode cX10_make 41 = .ok (.iconst 0, 1) := by decide +kernel
theorem dX10_make_42 : decode cX10_make 42 = .ok (.laload, 1) := by decide +kernel
theorem dX10_make_43 : decode cX10_make 43 = .ok (.ldc2_w 192, 3) := by decide +kernel
theorem dX10_make_46 : decode cX10_make 46 = .ok (.lcmp, 1) := by decide +kernel
theorem dX10_make_47 : decode cX10_make 47 = .ok (.ifCond .le 5, 3) := by decide +kernel
theorem dX10_make_50 : decode cX10_make 50 = .ok (.iconst 2, 1) := by decide +kernel
theorem dX10_make_51 : decode cX10_make 51 = .ok (.istore_n 3, 1) := by decide +kernel
