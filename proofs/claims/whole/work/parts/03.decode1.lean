theorem dX0_init_0 : decode cX0_init 0 = .ok (.aload_n 0, 1) := by decide +kernel
theorem dX0_init_1 : decode cX0_init 1 = .ok (.invokespecial 1, 3) := by decide +kernel
theorem dX0_init_4 : decode cX0_init 4 = .ok (.aload_n 0, 1) := by decide +kernel
theorem dX0_init_5 : decode cX0_init 5 = .ok (.iload_n 1, 1) := by decide +kernel
theorem dX0_init_6 : decode cX0_init 6 = .ok (.putfield 7, 3) := by decide +kernel
theorem dX0_init_9 : decode cX0_init 9 = .ok (.aload_n 0, 1) := by decide +kernel
theorem dX0_init_10 : decode cX0_init 10 = .ok (.aload_n 2, 1) := by decide +kernel
theorem dX0_init_11 : decode cX0_init 11 = .ok (.putfield 13, 3) := by decide +kernel
theorem dX0_init_14 : decode cX0_init 14 = .ok (.aload_n 0, 1) := by decide +kernel
theorem dX0_init_15 : decode cX0_init 15 = .ok (.iload_n 3, 1) := by decide +kernel
theorem dX0_init_16 : decode cX0_init 16 = .ok (.putfield 17, 3) := by decide +kernel
theorem dX0_init_19 : decode cX0_init 19 = .ok (.return_, 1) := by decide +kernel
theorem dX1_init_0 : decode cX1_init 0 = .ok (.aload_n 0, 1) := by decide +kernel
theorem dX1_init_1 : decode cX1_init 1 = .ok (.invokespecial 3, 3) := by decide +kernel
theorem dX1_init_4 : decode cX1_init 4 = .ok (.aload_n 0, 1) := by decide +kernel
theorem dX1_init_5 : decode cX1_init 5 = .ok (.new 9, 3) := by decide +kernel
theorem dX1_init_8 : decode cX1_init 8 = .ok (.dup, 1) := by decide +kernel
theorem dX1_init_9 : decode cX1_init 9 = .ok (.invokespecial 11, 3) := by decide +kernel
theorem dX1_init_12 : decode cX1_init 12 = .ok (.putfield 12, 3) := by decide +kernel
theorem dX1_init_15 : decode cX1_init 15 = .ok (.aload_n 0, 1) := by decide +kernel
theorem dX1_init_16 : decode cX1_init 16 = .ok (.aload_n 1, 1) := by decide +kernel
theorem dX1_init_17 : decode cX1_init 17 = .ok (.putfield 18, 3) := by decide +kernel
theorem dX1_init_20 : decode cX1_init 20 = .ok (.return_, 1) := by decide +kernel
theorem dX1_isWritten_0 : decode cX1_isWritten 0 = .ok (.aload_n 0, 1) := by decide +kernel
theorem dX1_isWritten_1 : decode cX1_isWritten 1 = .ok (.getfield 18, 3) := by decide +kernel
theorem dX1_isWritten_4 : decode cX1_isWritten 4 = .ok (.getfield 22, 3) := by decide +kernel
theorem dX1_isWritten_7 : decode cX1_isWritten 7 = .ok (.iconst 3, 1) := by decide +kernel
theorem dX1_isWritten_8 : decode cX1_isWritten 8 = .ok (.if_icmp .eq 7, 3) := by decide +kernel
theorem dX1_isWritten_11 : decode cX1_isWritten 11 = .ok (.iconst 1, 1) := by decide +kernel
theorem dX1_isWritten_12 : decode cX1_isWritten 12 = .ok (.goto 4, 3) := by decide +kernel
theorem dX1_isWritten_15 : decode cX1_isWritten 15 = .ok (.iconst 0, 1) := by decide +kernel
theorem dX1_isWritten_16 : decode cX1_isWritten 16 = .ok (.ireturn, 1) := by decide +kernel
theorem dX2_init_0 : decode cX2_init 0 = .ok (.aload_n 0, 1) := by decide +kernel
theorem dX2_init_1 : decode cX2_init 1 = .ok (.invokespecial 3, 3) := by decide +kernel
theorem dX2_init_4 : decode cX2_init 4 = .ok (.aload_n 0, 1) := by decide +kernel
theorem dX2_init_5 : decode cX2_init 5 = .ok (.aload_n 1, 1) := by decide +kernel
theorem dX2_init_6 : decode cX2_init 6 = .ok (.putfield 9, 3) := by decide +kernel
theorem dX2_init_9 : decode cX2_init 9 = .ok (.aload_n 0, 1) := by decide +kernel
theorem dX2_init_10 : decode cX2_init 10 = .ok (.sipush 320, 3) := by decide +kernel
theorem dX2_init_13 : decode cX2_init 13 = .ok (.anewarray 15, 3) := by decide +kernel
theorem dX2_init_16 : decode cX2_init 16 = .ok (.putfield 17, 3) := by decide +kernel
theorem dX2_init_19 : decode cX2_init 19 = .ok (.aload_n 0, 1) := by decide +kernel
theorem dX2_init_20 : decode cX2_init 20 = .ok (.bipush 40, 2) := by decide +kernel
theorem dX2_init_22 : decode cX2_init 22 = .ok (.newarray .int, 2) := by decide +kernel
theorem dX2_init_24 : decode cX2_init 24 = .ok (.putfield 21, 3) := by decide +kernel
theorem dX2_init_27 : decode cX2_init 27 = .ok (.return_, 1) := by decide +kernel
theorem dX2_makeArray_0 : decode cX2_makeArray 0 = .ok (.aload_n 0, 1) := by decide +kernel
theorem dX2_makeArray_1 : decode cX2_makeArray 1 = .ok (.getfield 25, 3) := by decide +kernel
theorem dX2_makeArray_4 : decode cX2_makeArray 4 = .ok (.bipush 40, 2) := by decide +kernel
theorem dX2_makeArray_6 : decode cX2_makeArray 6 = .ok (.if_icmp .ge 13, 3) := by decide +kernel
theorem dX2_makeArray_9 : decode cX2_makeArray 9 = .ok (.iload_n 1, 1) := by decide +kernel
theorem dX2_makeArray_10 : decode cX2_makeArray 10 = .ok (.ifCond .lt 9, 3) := by decide +kernel
theorem dX2_makeArray_13 : decode cX2_makeArray 13 = .ok (.iload_n 1, 1) := by decide +kernel
theorem dX2_makeArray_14 : decode cX2_makeArray 14 = .ok (.bipush 8, 2) := by decide +kernel
theorem dX2_makeArray_16 : decode cX2_makeArray 16 = .ok (.if_icmp .le 5, 3) := by decide +kernel
theorem dX2_makeArray_19 : decode cX2_makeArray 19 = .ok (.iconst (-1), 1) := by decide +kernel
theorem dX2_makeArray_20 : decode cX2_makeArray 20 = .ok (.ireturn, 1) := by decide +kernel
theorem dX2_makeArray_21 : decode cX2_makeArray 21 = .ok (.aload_n 0, 1) := by decide +kernel
theorem dX2_makeArray_22 : decode cX2_makeArray 22 = .ok (.getfield 25, 3) := by decide +kernel
theorem dX2_makeArray_25 : decode cX2_makeArray 25 = .ok (.istore_n 2, 1) := by decide +kernel
theorem dX2_makeArray_26 : decode cX2_makeArray 26 = .ok (.iload_n 2, 1) := by decide +kernel
theorem dX2_makeArray_27 : decode cX2_makeArray 27 = .ok (.bipush 8, 2) := by decide +kernel
theorem dX2_makeArray_29 : decode cX2_makeArray 29 = .ok (.imul, 1) := by decide +kernel
theorem dX2_makeArray_30 : decode cX2_makeArray 30 = .ok (.istore_n 3, 1) := by decide +kernel
theorem dX2_makeArray_31 : decode cX2_makeArray 31 = .ok (.iload_n 3, 1) := by decide +kernel
theorem dX2_makeArray_32 : decode cX2_makeArray 32 = .ok (.istore 4, 2) := by decide +kernel
theorem dX2_makeArray_34 : decode cX2_makeArray 34 = .ok (.iload 4, 2) := by decide +kernel
theorem dX2_makeArray_36 : decode cX2_makeArray 36 = .ok (.iload_n 3, 1) := by decide +kernel
theorem dX2_makeArray_37 : decode cX2_makeArray 37 = .ok (.iload_n 1, 1) := by decide +kernel
theorem dX2_makeArray_38 : decode cX2_makeArray 38 = .ok (.iadd, 1) := by decide +kernel
theorem dX2_makeArray_39 : decode cX2_makeArray 39 = .ok (.if_icmp .ge 47, 3) := by decide +kernel
theorem dX2_makeArray_42 : decode cX2_makeArray 42 = .ok (.iload 4, 2) := by decide +kernel
theorem dX2_makeArray_44 : decode cX2_makeArray 44 = .ok (.aload_n 0, 1) := by decide +kernel
theorem dX2_makeArray_45 : decode cX2_makeArray 45 = .ok (.getfield 17, 3) := by decide +kernel
theorem dX2_makeArray_48 : decode cX2_makeArray 48 = .ok (.arraylength, 1) := by decide +kernel
theorem dX2_makeArray_49 : decode cX2_makeArray 49 = .ok (.if_icmp .ge 37, 3) := by decide +kernel
theorem dX2_makeArray_52 : decode cX2_makeArray 52 = .ok (.aload_n 0, 1) := by decide +kernel
theorem dX2_makeArray_53 : decode cX2_makeArray 53 = .ok (.getfield 17, 3) := by decide +kernel
theorem dX2_makeArray_56 : decode cX2_makeArray 56 = .ok (.iload 4, 2) := by decide +kernel
theorem dX2_makeArray_58 : decode cX2_makeArray 58 = .ok (.aaload, 1) := by decide +kernel
theorem dX2_makeArray_59 : decode cX2_makeArray 59 = .ok (.ifnonnull 21, 3) := by decide +kernel
theorem dX2_makeArray_62 : decode cX2_makeArray 62 = .ok (.aload_n 0, 1) := by decide +kernel
theorem dX2_makeArray_63 : decode cX2_makeArray 63 = .ok (.getfield 17, 3) := by decide +kernel
theorem dX2_makeArray_66 : decode cX2_makeArray 66 = .ok (.iload 4, 2) := by decide +kernel
theorem dX2_makeArray_68 : decode cX2_makeArray 68 = .ok (.new 15, 3) := by decide +kernel
theorem dX2_makeArray_71 : decode cX2_makeArray 71 = .ok (.dup, 1) := by decide +kernel
theorem dX2_makeArray_72 : decode cX2_makeArray 72 = .ok (.aload_n 0, 1) := by decide +kernel
theorem dX2_makeArray_73 : decode cX2_makeArray 73 = .ok (.getfield 9, 3) := by decide +kernel
theorem dX2_makeArray_76 : decode cX2_makeArray 76 = .ok (.invokespecial 29, 3) := by decide +kernel
theorem dX2_makeArray_79 : decode cX2_makeArray 79 = .ok (.aastore, 1) := by decide +kernel
theorem dX2_makeArray_80 : decode cX2_makeArray 80 = .ok (.iinc 4 1, 3) := by decide +kernel
theorem dX2_makeArray_83 : decode cX2_makeArray 83 = .ok (.goto (-49), 3) := by decide +kernel
theorem dX2_makeArray_86 : decode cX2_makeArray 86 = .ok (.aload_n 0, 1) := by decide +kernel
theorem dX2_makeArray_87 : decode cX2_makeArray 87 = .ok (.getfield 21, 3) := by decide +kernel
theorem dX2_makeArray_90 : decode cX2_makeArray 90 = .ok (.iload_n 2, 1) := by decide +kernel
theorem dX2_makeArray_91 : decode cX2_makeArray 91 = .ok (.iload_n 1, 1) := by decide +kernel
theorem dX2_makeArray_92 : decode cX2_makeArray 92 = .ok (.iastore, 1) := by decide +kernel
theorem dX2_makeArray_93 : decode cX2_makeArray 93 = .ok (.aload_n 0, 1) := by decide +kernel
theorem dX2_makeArray_94 : decode cX2_makeArray 94 = .ok (.dup, 1) := by decide +kernel
theorem dX2_makeArray_95 : decode cX2_makeArray 95 = .ok (.getfield 25, 3) := by decide +kernel
theorem dX2_makeArray_98 : decode cX2_makeArray 98 = .ok (.iconst 1, 1) := by decide +kernel
theorem dX2_makeArray_99 : decode cX2_makeArray 99 = .ok (.iadd, 1) := by decide +kernel
theorem dX2_makeArray_100 : decode cX2_makeArray 100 = .ok (.putfield 25, 3) := by decide +kernel
theorem dX2_makeArray_103 : decode cX2_makeArray 103 = .ok (.iload_n 2, 1) := by decide +kernel
theorem dX2_makeArray_104 : decode cX2_makeArray 104 = .ok (.ireturn, 1) := by decide +kernel
theorem dX2_at_0 : decode cX2_at 0 = .ok (.lload_n 1, 1) := by decide +kernel
theorem dX2_at_1 : decode cX2_at 1 = .ok (.lconst 0, 1) := by decide +kernel
theorem dX2_at_2 : decode cX2_at 2 = .ok (.lcmp, 1) := by decide +kernel
theorem dX2_at_3 : decode cX2_at 3 = .ok (.ifCond .lt 24, 3) := by decide +kernel
theorem dX2_at_6 : decode cX2_at 6 = .ok (.lload_n 1, 1) := by decide +kernel
theorem dX2_at_7 : decode cX2_at 7 = .ok (.aload_n 0, 1) := by decide +kernel
theorem dX2_at_8 : decode cX2_at 8 = .ok (.getfield 25, 3) := by decide +kernel
theorem dX2_at_11 : decode cX2_at 11 = .ok (.i2l, 1) := by decide +kernel
theorem dX2_at_12 : decode cX2_at 12 = .ok (.lcmp, 1) := by decide +kernel
theorem dX2_at_13 : decode cX2_at 13 = .ok (.ifCond .ge 14, 3) := by decide +kernel
theorem dX2_at_16 : decode cX2_at 16 = .ok (.lload_n 1, 1) := by decide +kernel
theorem dX2_at_17 : decode cX2_at 17 = .ok (.aload_n 0, 1) := by decide +kernel
theorem dX2_at_18 : decode cX2_at 18 = .ok (.getfield 21, 3) := by decide +kernel
theorem dX2_at_21 : decode cX2_at 21 = .ok (.arraylength, 1) := by decide +kernel
theorem dX2_at_22 : decode cX2_at 22 = .ok (.i2l, 1) := by decide +kernel
theorem dX2_at_23 : decode cX2_at 23 = .ok (.lcmp, 1) := by decide +kernel
theorem dX2_at_24 : decode cX2_at 24 = .ok (.ifCond .lt 5, 3) := by decide +kernel
theorem dX2_at_27 : decode cX2_at 27 = .ok (.aconst_null, 1) := by decide +kernel
theorem dX2_at_28 : decode cX2_at 28 = .ok (.areturn, 1) := by decide +kernel
theorem dX2_at_29 : decode cX2_at 29 = .ok (.lload_n 3, 1) := by decide +kernel
theorem dX2_at_30 : decode cX2_at 30 = .ok (.lconst 0, 1) := by decide +kernel
theorem dX2_at_31 : decode cX2_at 31 = .ok (.lcmp, 1) := by decide +kernel
theorem dX2_at_32 : decode cX2_at 32 = .ok (.ifCond .lt 16, 3) := by decide +kernel
theorem dX2_at_35 : decode cX2_at 35 = .ok (.lload_n 3, 1) := by decide +kernel
theorem dX2_at_36 : decode cX2_at 36 = .ok (.aload_n 0, 1) := by decide +kernel
theorem dX2_at_37 : decode cX2_at 37 = .ok (.getfield 21, 3) := by decide +kernel
theorem dX2_at_40 : decode cX2_at 40 = .ok (.lload_n 1, 1) := by decide +kernel
theorem dX2_at_41 : decode cX2_at 41 = .ok (.l2i, 1) := by decide +kernel
theorem dX2_at_42 : decode cX2_at 42 = .ok (.iaload, 1) := by decide +kernel
theorem dX2_at_43 : decode cX2_at 43 = .ok (.i2l, 1) := by decide +kernel
theorem dX2_at_44 : decode cX2_at 44 = .ok (.lcmp, 1) := by decide +kernel
theorem dX2_at_45 : decode cX2_at 45 = .ok (.ifCond .lt 5, 3) := by decide +kernel
theorem dX2_at_48 : decode cX2_at 48 = .ok (.aconst_null, 1) := by decide +kernel
theorem dX2_at_49 : decode cX2_at 49 = .ok (.areturn, 1) := by decide +kernel
theorem dX2_at_50 : decode cX2_at 50 = .ok (.lload_n 1, 1) := by decide +kernel
theorem dX2_at_51 : decode cX2_at 51 = .ok (.l2i, 1) := by decide +kernel
theorem dX2_at_52 : decode cX2_at 52 = .ok (.bipush 8, 2) := by decide +kernel
theorem dX2_at_54 : decode cX2_at 54 = .ok (.imul, 1) := by decide +kernel
theorem dX2_at_55 : decode cX2_at 55 = .ok (.lload_n 3, 1) := by decide +kernel
theorem dX2_at_56 : decode cX2_at 56 = .ok (.l2i, 1) := by decide +kernel
theorem dX2_at_57 : decode cX2_at 57 = .ok (.iadd, 1) := by decide +kernel
theorem dX2_at_58 : decode cX2_at 58 = .ok (.istore 5, 2) := by decide +kernel
theorem dX2_at_60 : decode cX2_at 60 = .ok (.iload 5, 2) := by decide +kernel
theorem dX2_at_62 : decode cX2_at 62 = .ok (.aload_n 0, 1) := by decide +kernel
theorem dX2_at_63 : decode cX2_at 63 = .ok (.getfield 17, 3) := by decide +kernel
theorem dX2_at_66 : decode cX2_at 66 = .ok (.arraylength, 1) := by decide +kernel
theorem dX2_at_67 : decode cX2_at 67 = .ok (.if_icmp .ge 13, 3) := by decide +kernel
theorem dX2_at_70 : decode cX2_at 70 = .ok (.aload_n 0, 1) := by decide +kernel
theorem dX2_at_71 : decode cX2_at 71 = .ok (.getfield 17, 3) := by decide +kernel
theorem dX2_at_74 : decode cX2_at 74 = .ok (.iload 5, 2) := by decide +kernel
theorem dX2_at_76 : decode cX2_at 76 = .ok (.aaload, 1) := by decide +kernel
theorem dX2_at_77 : decode cX2_at 77 = .ok (.goto 4, 3) := by decide +kernel
theorem dX2_at_80 : decode cX2_at 80 = .ok (.aconst_null, 1) := by decide +kernel
theorem dX2_at_81 : decode cX2_at 81 = .ok (.areturn, 1) := by decide +kernel
theorem dX2_forgetAll_0 : decode cX2_forgetAll 0 = .ok (.iconst 0, 1) := by decide +kernel
theorem dX2_forgetAll_1 : decode cX2_forgetAll 1 = .ok (.istore_n 1, 1) := by decide +kernel
theorem dX2_forgetAll_2 : decode cX2_forgetAll 2 = .ok (.iload_n 1, 1) := by decide +kernel
theorem dX2_forgetAll_3 : decode cX2_forgetAll 3 = .ok (.aload_n 0, 1) := by decide +kernel
theorem dX2_forgetAll_4 : decode cX2_forgetAll 4 = .ok (.getfield 25, 3) := by decide +kernel
theorem dX2_forgetAll_7 : decode cX2_forgetAll 7 = .ok (.bipush 8, 2) := by decide +kernel
theorem dX2_forgetAll_9 : decode cX2_forgetAll 9 = .ok (.imul, 1) := by decide +kernel
theorem dX2_forgetAll_10 : decode cX2_forgetAll 10 = .ok (.if_icmp .ge 52, 3) := by decide +kernel
theorem dX2_forgetAll_13 : decode cX2_forgetAll 13 = .ok (.iload_n 1, 1) := by decide +kernel
theorem dX2_forgetAll_14 : decode cX2_forgetAll 14 = .ok (.aload_n 0, 1) := by decide +kernel
theorem dX2_forgetAll_15 : decode cX2_forgetAll 15 = .ok (.getfield 17, 3) := by decide +kernel
theorem dX2_forgetAll_18 : decode cX2_forgetAll 18 = .ok (.arraylength, 1) := by decide +kernel
theorem dX2_forgetAll_19 : decode cX2_forgetAll 19 = .ok (.if_icmp .ge 43, 3) := by decide +kernel
theorem dX2_forgetAll_22 : decode cX2_forgetAll 22 = .ok (.aload_n 0, 1) := by decide +kernel
theorem dX2_forgetAll_23 : decode cX2_forgetAll 23 = .ok (.getfield 17, 3) := by decide +kernel
theorem dX2_forgetAll_26 : decode cX2_forgetAll 26 = .ok (.iload_n 1, 1) := by decide +kernel
theorem dX2_forgetAll_27 : decode cX2_forgetAll 27 = .ok (.aaload, 1) := by decide +kernel
theorem dX2_forgetAll_28 : decode cX2_forgetAll 28 = .ok (.ifnull 28, 3) := by decide +kernel
theorem dX2_forgetAll_31 : decode cX2_forgetAll 31 = .ok (.aload_n 0, 1) := by decide +kernel
theorem dX2_forgetAll_32 : decode cX2_forgetAll 32 = .ok (.getfield 17, 3) := by decide +kernel
theorem dX2_forgetAll_35 : decode cX2_forgetAll 35 = .ok (.iload_n 1, 1) := by decide +kernel
theorem dX2_forgetAll_36 : decode cX2_forgetAll 36 = .ok (.aaload, 1) := by decide +kernel
theorem dX2_forgetAll_37 : decode cX2_forgetAll 37 = .ok (.aload_n 0, 1) := by decide +kernel
theorem dX2_forgetAll_38 : decode cX2_forgetAll 38 = .ok (.getfield 9, 3) := by decide +kernel
theorem dX2_forgetAll_41 : decode cX2_forgetAll 41 = .ok (.putfield 32, 3) := by decide +kernel
theorem dX2_forgetAll_44 : decode cX2_forgetAll 44 = .ok (.aload_n 0, 1) := by decide +kernel
theorem dX2_forgetAll_45 : decode cX2_forgetAll 45 = .ok (.getfield 17, 3) := by decide +kernel
theorem dX2_forgetAll_48 : decode cX2_forgetAll 48 = .ok (.iload_n 1, 1) := by decide +kernel
theorem dX2_forgetAll_49 : decode cX2_forgetAll 49 = .ok (.aaload, 1) := by decide +kernel
theorem dX2_forgetAll_50 : decode cX2_forgetAll 50 = .ok (.getfield 35, 3) := by decide +kernel
theorem dX2_forgetAll_53 : decode cX2_forgetAll 53 = .ok (.invokevirtual 39, 3) := by decide +kernel
theorem dX2_forgetAll_56 : decode cX2_forgetAll 56 = .ok (.iinc 1 1, 3) := by decide +kernel
theorem dX2_forgetAll_59 : decode cX2_forgetAll 59 = .ok (.goto (-57), 3) := by decide +kernel
theorem dX2_forgetAll_62 : decode cX2_forgetAll 62 = .ok (.aload_n 0, 1) := by decide +kernel
theorem dX2_forgetAll_63 : decode cX2_forgetAll 63 = .ok (.iconst 0, 1) := by decide +kernel
theorem dX2_forgetAll_64 : decode cX2_forgetAll 64 = .ok (.putfield 25, 3) := by decide +kernel
theorem dX2_forgetAll_67 : decode cX2_forgetAll 67 = .ok (.return_, 1) := by decide +kernel
theorem dX3_init_0 : decode cX3_init 0 = .ok (.aload_n 0, 1) := by decide +kernel
theorem dX3_init_1 : decode cX3_init 1 = .ok (.invokespecial 3, 3) := by decide +kernel
theorem dX3_init_4 : decode cX3_init 4 = .ok (.aload_n 0, 1) := by decide +kernel
theorem dX3_init_5 : decode cX3_init 5 = .ok (.sipush 151, 3) := by decide +kernel
theorem dX3_init_8 : decode cX3_init 8 = .ok (.newarray .int, 2) := by decide +kernel
theorem dX3_init_10 : decode cX3_init 10 = .ok (.putfield 9, 3) := by decide +kernel
theorem dX3_init_13 : decode cX3_init 13 = .ok (.aload_n 0, 1) := by decide +kernel
theorem dX3_init_14 : decode cX3_init 14 = .ok (.sipush 151, 3) := by decide +kernel
theorem dX3_init_17 : decode cX3_init 17 = .ok (.newarray .int, 2) := by decide +kernel
theorem dX3_init_19 : decode cX3_init 19 = .ok (.putfield 15, 3) := by decide +kernel
theorem dX3_init_22 : decode cX3_init 22 = .ok (.aload_n 0, 1) := by decide +kernel
theorem dX3_init_23 : decode cX3_init 23 = .ok (.sipush 151, 3) := by decide +kernel
theorem dX3_init_26 : decode cX3_init 26 = .ok (.newarray .int, 2) := by decide +kernel
theorem dX3_init_28 : decode cX3_init 28 = .ok (.putfield 18, 3) := by decide +kernel
theorem dX3_init_31 : decode cX3_init 31 = .ok (.aload_n 0, 1) := by decide +kernel
theorem dX3_init_32 : decode cX3_init 32 = .ok (.getfield 9, 3) := by decide +kernel
theorem dX3_init_35 : decode cX3_init 35 = .ok (.iconst 0, 1) := by decide +kernel
theorem dX3_init_36 : decode cX3_init 36 = .ok (.iconst (-1), 1) := by decide +kernel
theorem dX3_init_37 : decode cX3_init 37 = .ok (.iastore, 1) := by decide +kernel
theorem dX3_init_38 : decode cX3_init 38 = .ok (.aload_n 0, 1) := by decide +kernel
theorem dX3_init_39 : decode cX3_init 39 = .ok (.iconst 1, 1) := by decide +kernel
theorem dX3_init_40 : decode cX3_init 40 = .ok (.putfield 21, 3) := by decide +kernel
theorem dX3_init_43 : decode cX3_init 43 = .ok (.return_, 1) := by decide +kernel
theorem dX3_has_0 : decode cX3_has 0 = .ok (.iload_n 1, 1) := by decide +kernel
theorem dX3_has_1 : decode cX3_has 1 = .ok (.ifCond .lt 22, 3) := by decide +kernel
theorem dX3_has_4 : decode cX3_has 4 = .ok (.iload_n 1, 1) := by decide +kernel
theorem dX3_has_5 : decode cX3_has 5 = .ok (.aload_n 0, 1) := by decide +kernel
theorem dX3_has_6 : decode cX3_has 6 = .ok (.getfield 21, 3) := by decide +kernel
theorem dX3_has_9 : decode cX3_has 9 = .ok (.if_icmp .ge 14, 3) := by decide +kernel
theorem dX3_has_12 : decode cX3_has 12 = .ok (.iload_n 1, 1) := by decide +kernel
theorem dX3_has_13 : decode cX3_has 13 = .ok (.sipush 151, 3) := by decide +kernel
theorem dX3_has_16 : decode cX3_has 16 = .ok (.if_icmp .ge 7, 3) := by decide +kernel
theorem dX3_has_19 : decode cX3_has 19 = .ok (.iconst 1, 1) := by decide +kernel
theorem dX3_has_20 : decode cX3_has 20 = .ok (.goto 4, 3) := by decide +kernel
theorem dX3_has_23 : decode cX3_has 23 = .ok (.iconst 0, 1) := by decide +kernel
theorem dX3_has_24 : decode cX3_has 24 = .ok (.ireturn, 1) := by decide +kernel
theorem dX3_numberOf_0 : decode cX3_numberOf 0 = .ok (.iconst 1, 1) := by decide +kernel
theorem dX3_numberOf_1 : decode cX3_numberOf 1 = .ok (.istore 4, 2) := by decide +kernel
theorem dX3_numberOf_3 : decode cX3_numberOf 3 = .ok (.iload 4, 2) := by decide +kernel
theorem dX3_numberOf_5 : decode cX3_numberOf 5 = .ok (.aload_n 0, 1) := by decide +kernel
theorem dX3_numberOf_6 : decode cX3_numberOf 6 = .ok (.getfield 21, 3) := by decide +kernel
theorem dX3_numberOf_9 : decode cX3_numberOf 9 = .ok (.if_icmp .ge 53, 3) := by decide +kernel
theorem dX3_numberOf_12 : decode cX3_numberOf 12 = .ok (.iload 4, 2) := by decide +kernel
theorem dX3_numberOf_14 : decode cX3_numberOf 14 = .ok (.sipush 151, 3) := by decide +kernel
theorem dX3_numberOf_17 : decode cX3_numberOf 17 = .ok (.if_icmp .ge 45, 3) := by decide +kernel
theorem dX3_numberOf_20 : decode cX3_numberOf 20 = .ok (.aload_n 0, 1) := by decide +kernel
theorem dX3_numberOf_21 : decode cX3_numberOf 21 = .ok (.getfield 9, 3) := by decide +kernel
theorem dX3_numberOf_24 : decode cX3_numberOf 24 = .ok (.iload 4, 2) := by decide +kernel
theorem dX3_numberOf_26 : decode cX3_numberOf 26 = .ok (.iaload, 1) := by decide +kernel
theorem dX3_numberOf_27 : decode cX3_numberOf 27 = .ok (.iload_n 1, 1) := by decide +kernel
theorem dX3_numberOf_28 : decode cX3_numberOf 28 = .ok (.if_icmp .ne 28, 3) := by decide +kernel
theorem dX3_numberOf_31 : decode cX3_numberOf 31 = .ok (.aload_n 0, 1) := by decide +kernel
theorem dX3_numberOf_32 : decode cX3_numberOf 32 = .ok (.getfield 15, 3) := by decide +kernel
theorem dX3_numberOf_35 : decode cX3_numberOf 35 = .ok (.iload 4, 2) := by decide +kernel
theorem dX3_numberOf_37 : decode cX3_numberOf 37 = .ok (.iaload, 1) := by decide +kernel
theorem dX3_numberOf_38 : decode cX3_numberOf 38 = .ok (.iload_n 2, 1) := by decide +kernel
theorem dX3_numberOf_39 : decode cX3_numberOf 39 = .ok (.if_icmp .ne 17, 3) := by decide +kernel
theorem dX3_numberOf_42 : decode cX3_numberOf 42 = .ok (.aload_n 0, 1) := by decide +kernel
theorem dX3_numberOf_43 : decode cX3_numberOf 43 = .ok (.getfield 18, 3) := by decide +kernel
theorem dX3_numberOf_46 : decode cX3_numberOf 46 = .ok (.iload 4, 2) := by decide +kernel
theorem dX3_numberOf_48 : decode cX3_numberOf 48 = .ok (.iaload, 1) := by decide +kernel
theorem dX3_numberOf_49 : decode cX3_numberOf 49 = .ok (.iload_n 3, 1) := by decide +kernel
theorem dX3_numberOf_50 : decode cX3_numberOf 50 = .ok (.if_icmp .ne 6, 3) := by decide +kernel
theorem dX3_numberOf_53 : decode cX3_numberOf 53 = .ok (.iload 4, 2) := by decide +kernel
theorem dX3_numberOf_55 : decode cX3_numberOf 55 = .ok (.ireturn, 1) := by decide +kernel
theorem dX3_numberOf_56 : decode cX3_numberOf 56 = .ok (.iinc 4 1, 3) := by decide +kernel
theorem dX3_numberOf_59 : decode cX3_numberOf 59 = .ok (.goto (-56), 3) := by decide +kernel
theorem dX3_numberOf_62 : decode cX3_numberOf 62 = .ok (.aload_n 0, 1) := by decide +kernel
theorem dX3_numberOf_63 : decode cX3_numberOf 63 = .ok (.getfield 21, 3) := by decide +kernel
theorem dX3_numberOf_66 : decode cX3_numberOf 66 = .ok (.sipush 151, 3) := by decide +kernel
theorem dX3_numberOf_69 : decode cX3_numberOf 69 = .ok (.if_icmp .lt 5, 3) := by decide +kernel
theorem dX3_numberOf_72 : decode cX3_numberOf 72 = .ok (.iconst (-1), 1) := by decide +kernel
theorem dX3_numberOf_73 : decode cX3_numberOf 73 = .ok (.ireturn, 1) := by decide +kernel
theorem dX3_numberOf_74 : decode cX3_numberOf 74 = .ok (.aload_n 0, 1) := by decide +kernel
theorem dX3_numberOf_75 : decode cX3_numberOf 75 = .ok (.getfield 21, 3) := by decide +kernel
theorem dX3_numberOf_78 : decode cX3_numberOf 78 = .ok (.istore 4, 2) := by decide +kernel
theorem dX3_numberOf_80 : decode cX3_numberOf 80 = .ok (.aload_n 0, 1) := by decide +kernel
theorem dX3_numberOf_81 : decode cX3_numberOf 81 = .ok (.getfield 9, 3) := by decide +kernel
theorem dX3_numberOf_84 : decode cX3_numberOf 84 = .ok (.iload 4, 2) := by decide +kernel
theorem dX3_numberOf_86 : decode cX3_numberOf 86 = .ok (.iload_n 1, 1) := by decide +kernel
theorem dX3_numberOf_87 : decode cX3_numberOf 87 = .ok (.iastore, 1) := by decide +kernel
theorem dX3_numberOf_88 : decode cX3_numberOf 88 = .ok (.aload_n 0, 1) := by decide +kernel
theorem dX3_numberOf_89 : decode cX3_numberOf 89 = .ok (.getfield 15, 3) := by decide +kernel
theorem dX3_numberOf_92 : decode cX3_numberOf 92 = .ok (.iload 4, 2) := by decide +kernel
theorem dX3_numberOf_94 : decode cX3_numberOf 94 = .ok (.iload_n 2, 1) := by decide +kernel
theorem dX3_numberOf_95 : decode cX3_numberOf 95 = .ok (.iastore, 1) := by decide +kernel
theorem dX3_numberOf_96 : decode cX3_numberOf 96 = .ok (.aload_n 0, 1) := by decide +kernel
theorem dX3_numberOf_97 : decode cX3_numberOf 97 = .ok (.getfield 18, 3) := by decide +kernel
theorem dX3_numberOf_100 : decode cX3_numberOf 100 = .ok (.iload 4, 2) := by decide +kernel
theorem dX3_numberOf_102 : decode cX3_numberOf 102 = .ok (.iload_n 3, 1) := by decide +kernel
theorem dX3_numberOf_103 : decode cX3_numberOf 103 = .ok (.iastore, 1) := by decide +kernel
theorem dX3_numberOf_104 : decode cX3_numberOf 104 = .ok (.aload_n 0, 1) := by decide +kernel
theorem dX3_numberOf_105 : decode cX3_numberOf 105 = .ok (.dup, 1) := by decide +kernel
theorem dX3_numberOf_106 : decode cX3_numberOf 106 = .ok (.getfield 21, 3) := by decide +kernel
theorem dX3_numberOf_109 : decode cX3_numberOf 109 = .ok (.iconst 1, 1) := by decide +kernel
theorem dX3_numberOf_110 : decode cX3_numberOf 110 = .ok (.iadd, 1) := by decide +kernel
theorem dX3_numberOf_111 : decode cX3_numberOf 111 = .ok (.putfield 21, 3) := by decide +kernel
theorem dX3_numberOf_114 : decode cX3_numberOf 114 = .ok (.iload 4, 2) := by decide +kernel
theorem dX3_numberOf_116 : decode cX3_numberOf 116 = .ok (.ireturn, 1) := by decide +kernel
theorem dX3_nextRoundOf_0 : decode cX3_nextRoundOf 0 = .ok (.iload_n 1, 1) := by decide +kernel
theorem dX3_nextRoundOf_1 : decode cX3_nextRoundOf 1 = .ok (.ifCond .eq 11, 3) := by decide +kernel
theorem dX3_nextRoundOf_4 : decode cX3_nextRoundOf 4 = .ok (.aload_n 0, 1) := by decide +kernel
theorem dX3_nextRoundOf_5 : decode cX3_nextRoundOf 5 = .ok (.iload_n 1, 1) := by decide +kernel
theorem dX3_nextRoundOf_6 : decode cX3_nextRoundOf 6 = .ok (.invokevirtual 25, 3) := by decide +kernel
theorem dX3_nextRoundOf_9 : decode cX3_nextRoundOf 9 = .ok (.ifCond .ne 5, 3) := by decide +kernel
theorem dX3_nextRoundOf_12 : decode cX3_nextRoundOf 12 = .ok (.iconst 0, 1) := by decide +kernel
theorem dX3_nextRoundOf_13 : decode cX3_nextRoundOf 13 = .ok (.ireturn, 1) := by decide +kernel
theorem dX3_nextRoundOf_14 : decode cX3_nextRoundOf 14 = .ok (.aload_n 0, 1) := by decide +kernel
theorem dX3_nextRoundOf_15 : decode cX3_nextRoundOf 15 = .ok (.aload_n 0, 1) := by decide +kernel
theorem dX3_nextRoundOf_16 : decode cX3_nextRoundOf 16 = .ok (.getfield 9, 3) := by decide +kernel
theorem dX3_nextRoundOf_19 : decode cX3_nextRoundOf 19 = .ok (.iload_n 1, 1) := by decide +kernel
theorem dX3_nextRoundOf_20 : decode cX3_nextRoundOf 20 = .ok (.iaload, 1) := by decide +kernel
theorem dX3_nextRoundOf_21 : decode cX3_nextRoundOf 21 = .ok (.aload_n 0, 1) := by decide +kernel
theorem dX3_nextRoundOf_22 : decode cX3_nextRoundOf 22 = .ok (.getfield 15, 3) := by decide +kernel
theorem dX3_nextRoundOf_25 : decode cX3_nextRoundOf 25 = .ok (.iload_n 1, 1) := by decide +kernel
theorem dX3_nextRoundOf_26 : decode cX3_nextRoundOf 26 = .ok (.iaload, 1) := by decide +kernel
theorem dX3_nextRoundOf_27 : decode cX3_nextRoundOf 27 = .ok (.aload_n 0, 1) := by decide +kernel
theorem dX3_nextRoundOf_28 : decode cX3_nextRoundOf 28 = .ok (.getfield 18, 3) := by decide +kernel
theorem dX3_nextRoundOf_31 : decode cX3_nextRoundOf 31 = .ok (.iload_n 1, 1) := by decide +kernel
theorem dX3_nextRoundOf_32 : decode cX3_nextRoundOf 32 = .ok (.iaload, 1) := by decide +kernel
theorem dX3_nextRoundOf_33 : decode cX3_nextRoundOf 33 = .ok (.iconst 1, 1) := by decide +kernel
theorem dX3_nextRoundOf_34 : decode cX3_nextRoundOf 34 = .ok (.iadd, 1) := by decide +kernel
theorem dX3_nextRoundOf_35 : decode cX3_nextRoundOf 35 = .ok (.invokevirtual 29, 3) := by decide +kernel
theorem dX3_nextRoundOf_38 : decode cX3_nextRoundOf 38 = .ok (.ireturn, 1) := by decide +kernel
theorem dX3_firstRoundOf_0 : decode cX3_firstRoundOf 0 = .ok (.iload_n 1, 1) := by decide +kernel
theorem dX3_firstRoundOf_1 : decode cX3_firstRoundOf 1 = .ok (.ifCond .eq 11, 3) := by decide +kernel
theorem dX3_firstRoundOf_4 : decode cX3_firstRoundOf 4 = .ok (.aload_n 0, 1) := by decide +kernel
theorem dX3_firstRoundOf_5 : decode cX3_firstRoundOf 5 = .ok (.iload_n 1, 1) := by decide +kernel
theorem dX3_firstRoundOf_6 : decode cX3_firstRoundOf 6 = .ok (.invokevirtual 25, 3) := by decide +kernel
theorem dX3_firstRoundOf_9 : decode cX3_firstRoundOf 9 = .ok (.ifCond .ne 5, 3) := by decide +kernel
theorem dX3_firstRoundOf_12 : decode cX3_firstRoundOf 12 = .ok (.iconst 0, 1) := by decide +kernel
theorem dX3_firstRoundOf_13 : decode cX3_firstRoundOf 13 = .ok (.ireturn, 1) := by decide +kernel
theorem dX3_firstRoundOf_14 : decode cX3_firstRoundOf 14 = .ok (.aload_n 0, 1) := by decide +kernel
theorem dX3_firstRoundOf_15 : decode cX3_firstRoundOf 15 = .ok (.aload_n 0, 1) := by decide +kernel
theorem dX3_firstRoundOf_16 : decode cX3_firstRoundOf 16 = .ok (.getfield 9, 3) := by decide +kernel
theorem dX3_firstRoundOf_19 : decode cX3_firstRoundOf 19 = .ok (.iload_n 1, 1) := by decide +kernel
theorem dX3_firstRoundOf_20 : decode cX3_firstRoundOf 20 = .ok (.iaload, 1) := by decide +kernel
theorem dX3_firstRoundOf_21 : decode cX3_firstRoundOf 21 = .ok (.aload_n 0, 1) := by decide +kernel
theorem dX3_firstRoundOf_22 : decode cX3_firstRoundOf 22 = .ok (.getfield 15, 3) := by decide +kernel
theorem dX3_firstRoundOf_25 : decode cX3_firstRoundOf 25 = .ok (.iload_n 1, 1) := by decide +kernel
theorem dX3_firstRoundOf_26 : decode cX3_firstRoundOf 26 = .ok (.iaload, 1) := by decide +kernel
theorem dX3_firstRoundOf_27 : decode cX3_firstRoundOf 27 = .ok (.iconst 0, 1) := by decide +kernel
theorem dX3_firstRoundOf_28 : decode cX3_firstRoundOf 28 = .ok (.invokevirtual 29, 3) := by decide +kernel
theorem dX3_firstRoundOf_31 : decode cX3_firstRoundOf 31 = .ok (.ireturn, 1) := by decide +kernel
theorem dX3_outsideOf_0 : decode cX3_outsideOf 0 = .ok (.iload_n 1, 1) := by decide +kernel
theorem dX3_outsideOf_1 : decode cX3_outsideOf 1 = .ok (.ifCond .eq 11, 3) := by decide +kernel
theorem dX3_outsideOf_4 : decode cX3_outsideOf 4 = .ok (.aload_n 0, 1) := by decide +kernel
theorem dX3_outsideOf_5 : decode cX3_outsideOf 5 = .ok (.iload_n 1, 1) := by decide +kernel
theorem dX3_outsideOf_6 : decode cX3_outsideOf 6 = .ok (.invokevirtual 25, 3) := by decide +kernel
theorem dX3_outsideOf_9 : decode cX3_outsideOf 9 = .ok (.ifCond .ne 7, 3) := by decide +kernel
theorem dX3_outsideOf_12 : decode cX3_outsideOf 12 = .ok (.iconst 0, 1) := by decide +kernel
theorem dX3_outsideOf_13 : decode cX3_outsideOf 13 = .ok (.goto 9, 3) := by decide +kernel
theorem dX3_outsideOf_16 : decode cX3_outsideOf 16 = .ok (.aload_n 0, 1) := by decide +kernel
theorem dX3_outsideOf_17 : decode cX3_outsideOf 17 = .ok (.getfield 9, 3) := by decide +kernel
theorem dX3_outsideOf_20 : decode cX3_outsideOf 20 = .ok (.iload_n 1, 1) := by decide +kernel
theorem dX3_outsideOf_21 : decode cX3_outsideOf 21 = .ok (.iaload, 1) := by decide +kernel
theorem dX3_outsideOf_22 : decode cX3_outsideOf 22 = .ok (.ireturn, 1) := by decide +kernel
theorem dX3_siteOf_0 : decode cX3_siteOf 0 = .ok (.aload_n 0, 1) := by decide +kernel
theorem dX3_siteOf_1 : decode cX3_siteOf 1 = .ok (.iload_n 1, 1) := by decide +kernel
theorem dX3_siteOf_2 : decode cX3_siteOf 2 = .ok (.invokevirtual 25, 3) := by decide +kernel
theorem dX3_siteOf_5 : decode cX3_siteOf 5 = .ok (.ifCond .eq 12, 3) := by decide +kernel
theorem dX3_siteOf_8 : decode cX3_siteOf 8 = .ok (.aload_n 0, 1) := by decide +kernel
theorem dX3_siteOf_9 : decode cX3_siteOf 9 = .ok (.getfield 15, 3) := by decide +kernel
theorem dX3_siteOf_12 : decode cX3_siteOf 12 = .ok (.iload_n 1, 1) := by decide +kernel
theorem dX3_siteOf_13 : decode cX3_siteOf 13 = .ok (.iaload, 1) := by decide +kernel
theorem dX3_siteOf_14 : decode cX3_siteOf 14 = .ok (.goto 4, 3) := by decide +kernel
theorem dX3_siteOf_17 : decode cX3_siteOf 17 = .ok (.iconst 0, 1) := by decide +kernel
theorem dX3_siteOf_18 : decode cX3_siteOf 18 = .ok (.ireturn, 1) := by decide +kernel
theorem dX3_forgetAll_0 : decode cX3_forgetAll 0 = .ok (.aload_n 0, 1) := by decide +kernel
theorem dX3_forgetAll_1 : decode cX3_forgetAll 1 = .ok (.iconst 1, 1) := by decide +kernel
theorem dX3_forgetAll_2 : decode cX3_forgetAll 2 = .ok (.putfield 21, 3) := by decide +kernel
theorem dX3_forgetAll_5 : decode cX3_forgetAll 5 = .ok (.return_, 1) := by decide +kernel
theorem dX4_init_0 : decode cX4_init 0 = .ok (.aload_n 0, 1) := by decide +kernel
theorem dX4_init_1 : decode cX4_init 1 = .ok (.invokespecial 3, 3) := by decide +kernel
theorem dX4_init_4 : decode cX4_init 4 = .ok (.aload_n 0, 1) := by decide +kernel
theorem dX4_init_5 : decode cX4_init 5 = .ok (.aload_n 1, 1) := by decide +kernel
theorem dX4_init_6 : decode cX4_init 6 = .ok (.putfield 9, 3) := by decide +kernel
theorem dX4_init_9 : decode cX4_init 9 = .ok (.aload_n 0, 1) := by decide +kernel
theorem dX4_init_10 : decode cX4_init 10 = .ok (.iconst 3, 1) := by decide +kernel
theorem dX4_init_11 : decode cX4_init 11 = .ok (.anewarray 15, 3) := by decide +kernel
theorem dX4_init_14 : decode cX4_init 14 = .ok (.putfield 17, 3) := by decide +kernel
theorem dX4_init_17 : decode cX4_init 17 = .ok (.aload_n 0, 1) := by decide +kernel
theorem dX4_init_18 : decode cX4_init 18 = .ok (.aload_n 2, 1) := by decide +kernel
theorem dX4_init_19 : decode cX4_init 19 = .ok (.putfield 21, 3) := by decide +kernel
theorem dX4_init_22 : decode cX4_init 22 = .ok (.aload_n 0, 1) := by decide +kernel
theorem dX4_init_23 : decode cX4_init 23 = .ok (.iload_n 3, 1) := by decide +kernel
theorem dX4_init_24 : decode cX4_init 24 = .ok (.putfield 25, 3) := by decide +kernel
theorem dX4_init_27 : decode cX4_init 27 = .ok (.iconst 0, 1) := by decide +kernel
theorem dX4_init_28 : decode cX4_init 28 = .ok (.istore 4, 2) := by decide +kernel
theorem dX4_init_30 : decode cX4_init 30 = .ok (.iload 4, 2) := by decide +kernel
theorem dX4_init_32 : decode cX4_init 32 = .ok (.iconst 3, 1) := by decide +kernel
theorem dX4_init_33 : decode cX4_init 33 = .ok (.if_icmp .ge 17, 3) := by decide +kernel
theorem dX4_init_36 : decode cX4_init 36 = .ok (.aload_n 0, 1) := by decide +kernel
theorem dX4_init_37 : decode cX4_init 37 = .ok (.getfield 17, 3) := by decide +kernel
theorem dX4_init_40 : decode cX4_init 40 = .ok (.iload 4, 2) := by decide +kernel
theorem dX4_init_42 : decode cX4_init 42 = .ok (.aload_n 1, 1) := by decide +kernel
theorem dX4_init_43 : decode cX4_init 43 = .ok (.aastore, 1) := by decide +kernel
theorem dX4_init_44 : decode cX4_init 44 = .ok (.iinc 4 1, 3) := by decide +kernel
theorem dX4_init_47 : decode cX4_init 47 = .ok (.goto (-17), 3) := by decide +kernel
theorem dX4_init_50 : decode cX4_init 50 = .ok (.return_, 1) := by decide +kernel
theorem dX4_holds_0 : decode cX4_holds 0 = .ok (.iload_n 1, 1) := by decide +kernel
theorem dX4_holds_1 : decode cX4_holds 1 = .ok (.ifCond .lt 29, 3) := by decide +kernel
theorem dX4_holds_4 : decode cX4_holds 4 = .ok (.iload_n 1, 1) := by decide +kernel
theorem dX4_holds_5 : decode cX4_holds 5 = .ok (.aload_n 0, 1) := by decide +kernel
theorem dX4_holds_6 : decode cX4_holds 6 = .ok (.getfield 17, 3) := by decide +kernel
theorem dX4_holds_9 : decode cX4_holds 9 = .ok (.arraylength, 1) := by decide +kernel
theorem dX4_holds_10 : decode cX4_holds 10 = .ok (.if_icmp .ge 20, 3) := by decide +kernel
theorem dX4_holds_13 : decode cX4_holds 13 = .ok (.aload_n 0, 1) := by decide +kernel
theorem dX4_holds_14 : decode cX4_holds 14 = .ok (.getfield 17, 3) := by decide +kernel
theorem dX4_holds_17 : decode cX4_holds 17 = .ok (.iload_n 1, 1) := by decide +kernel
theorem dX4_holds_18 : decode cX4_holds 18 = .ok (.aaload, 1) := by decide +kernel
theorem dX4_holds_19 : decode cX4_holds 19 = .ok (.getfield 29, 3) := by decide +kernel
theorem dX4_holds_22 : decode cX4_holds 22 = .ok (.iconst 3, 1) := by decide +kernel
theorem dX4_holds_23 : decode cX4_holds 23 = .ok (.if_icmp .eq 7, 3) := by decide +kernel
theorem dX4_holds_26 : decode cX4_holds 26 = .ok (.iconst 1, 1) := by decide +kernel
theorem dX4_holds_27 : decode cX4_holds 27 = .ok (.goto 4, 3) := by decide +kernel
theorem dX4_holds_30 : decode cX4_holds 30 = .ok (.iconst 0, 1) := by decide +kernel
theorem dX4_holds_31 : decode cX4_holds 31 = .ok (.ireturn, 1) := by decide +kernel
theorem dX4_put_0 : decode cX4_put 0 = .ok (.iload_n 1, 1) := by decide +kernel
theorem dX4_put_1 : decode cX4_put 1 = .ok (.ifCond .lt 29, 3) := by decide +kernel
theorem dX4_put_4 : decode cX4_put 4 = .ok (.iload_n 1, 1) := by decide +kernel
theorem dX4_put_5 : decode cX4_put 5 = .ok (.aload_n 0, 1) := by decide +kernel
theorem dX4_put_6 : decode cX4_put 6 = .ok (.getfield 17, 3) := by decide +kernel
theorem dX4_put_9 : decode cX4_put 9 = .ok (.arraylength, 1) := by decide +kernel
theorem dX4_put_10 : decode cX4_put 10 = .ok (.if_icmp .ge 20, 3) := by decide +kernel
theorem dX4_put_13 : decode cX4_put 13 = .ok (.aload_n 0, 1) := by decide +kernel
theorem dX4_put_14 : decode cX4_put 14 = .ok (.getfield 17, 3) := by decide +kernel
theorem dX4_put_17 : decode cX4_put 17 = .ok (.iload_n 1, 1) := by decide +kernel
theorem dX4_put_18 : decode cX4_put 18 = .ok (.aload_n 2, 1) := by decide +kernel
theorem dX4_put_19 : decode cX4_put 19 = .ok (.aastore, 1) := by decide +kernel
theorem dX4_put_20 : decode cX4_put 20 = .ok (.aload_n 0, 1) := by decide +kernel
theorem dX4_put_21 : decode cX4_put 21 = .ok (.dup, 1) := by decide +kernel
theorem dX4_put_22 : decode cX4_put 22 = .ok (.getfield 32, 3) := by decide +kernel
theorem dX4_put_25 : decode cX4_put 25 = .ok (.iconst 1, 1) := by decide +kernel
theorem dX4_put_26 : decode cX4_put 26 = .ok (.iadd, 1) := by decide +kernel
theorem dX4_put_27 : decode cX4_put 27 = .ok (.putfield 32, 3) := by decide +kernel
theorem dX4_put_30 : decode cX4_put 30 = .ok (.return_, 1) := by decide +kernel
theorem dX4_empty_0 : decode cX4_empty 0 = .ok (.iconst 0, 1) := by decide +kernel
theorem dX4_empty_1 : decode cX4_empty 1 = .ok (.istore_n 1, 1) := by decide +kernel
theorem dX4_empty_2 : decode cX4_empty 2 = .ok (.iload_n 1, 1) := by decide +kernel
theorem dX4_empty_3 : decode cX4_empty 3 = .ok (.aload_n 0, 1) := by decide +kernel
theorem dX4_empty_4 : decode cX4_empty 4 = .ok (.getfield 17, 3) := by decide +kernel
theorem dX4_empty_7 : decode cX4_empty 7 = .ok (.arraylength, 1) := by decide +kernel
theorem dX4_empty_8 : decode cX4_empty 8 = .ok (.if_icmp .ge 19, 3) := by decide +kernel
theorem dX4_empty_11 : decode cX4_empty 11 = .ok (.aload_n 0, 1) := by decide +kernel
theorem dX4_empty_12 : decode cX4_empty 12 = .ok (.getfield 17, 3) := by decide +kernel
theorem dX4_empty_15 : decode cX4_empty 15 = .ok (.iload_n 1, 1) := by decide +kernel
theorem dX4_empty_16 : decode cX4_empty 16 = .ok (.aload_n 0, 1) := by decide +kernel
theorem dX4_empty_17 : decode cX4_empty 17 = .ok (.getfield 9, 3) := by decide +kernel
theorem dX4_empty_20 : decode cX4_empty 20 = .ok (.aastore, 1) := by decide +kernel
theorem dX4_empty_21 : decode cX4_empty 21 = .ok (.iinc 1 1, 3) := by decide +kernel
theorem dX4_empty_24 : decode cX4_empty 24 = .ok (.goto (-22), 3) := by decide +kernel
theorem dX4_empty_27 : decode cX4_empty 27 = .ok (.aload_n 0, 1) := by decide +kernel
theorem dX4_empty_28 : decode cX4_empty 28 = .ok (.iconst 0, 1) := by decide +kernel
theorem dX4_empty_29 : decode cX4_empty 29 = .ok (.putfield 32, 3) := by decide +kernel
theorem dX4_empty_32 : decode cX4_empty 32 = .ok (.return_, 1) := by decide +kernel
theorem dX5_init_0 : decode cX5_init 0 = .ok (.aload_n 0, 1) := by decide +kernel
theorem dX5_init_1 : decode cX5_init 1 = .ok (.invokespecial 1, 3) := by decide +kernel
theorem dX5_init_4 : decode cX5_init 4 = .ok (.aload_n 0, 1) := by decide +kernel
theorem dX5_init_5 : decode cX5_init 5 = .ok (.aload_n 1, 1) := by decide +kernel
theorem dX5_init_6 : decode cX5_init 6 = .ok (.putfield 7, 3) := by decide +kernel
theorem dX5_init_9 : decode cX5_init 9 = .ok (.aload_n 0, 1) := by decide +kernel
theorem dX5_init_10 : decode cX5_init 10 = .ok (.new 13, 3) := by decide +kernel
theorem dX5_init_13 : decode cX5_init 13 = .ok (.dup, 1) := by decide +kernel
theorem dX5_init_14 : decode cX5_init 14 = .ok (.invokespecial 15, 3) := by decide +kernel
theorem dX5_init_17 : decode cX5_init 17 = .ok (.putfield 16, 3) := by decide +kernel
theorem dX5_init_20 : decode cX5_init 20 = .ok (.aload_n 0, 1) := by decide +kernel
theorem dX5_init_21 : decode cX5_init 21 = .ok (.new 13, 3) := by decide +kernel
theorem dX5_init_24 : decode cX5_init 24 = .ok (.dup, 1) := by decide +kernel
theorem dX5_init_25 : decode cX5_init 25 = .ok (.invokespecial 15, 3) := by decide +kernel
theorem dX5_init_28 : decode cX5_init 28 = .ok (.putfield 20, 3) := by decide +kernel
theorem dX5_init_31 : decode cX5_init 31 = .ok (.return_, 1) := by decide +kernel
theorem dX5_take_0 : decode cX5_take 0 = .ok (.aload_n 0, 1) := by decide +kernel
theorem dX5_take_1 : decode cX5_take 1 = .ok (.getfield 20, 3) := by decide +kernel
theorem dX5_take_4 : decode cX5_take 4 = .ok (.invokevirtual 23, 3) := by decide +kernel
theorem dX5_take_7 : decode cX5_take 7 = .ok (.ifCond .eq 28, 3) := by decide +kernel
theorem dX5_take_10 : decode cX5_take 10 = .ok (.new 27, 3) := by decide +kernel
theorem dX5_take_13 : decode cX5_take 13 = .ok (.dup, 1) := by decide +kernel
theorem dX5_take_14 : decode cX5_take 14 = .ok (.aload_n 0, 1) := by decide +kernel
theorem dX5_take_15 : decode cX5_take 15 = .ok (.getfield 7, 3) := by decide +kernel
theorem dX5_take_18 : decode cX5_take 18 = .ok (.aload_n 1, 1) := by decide +kernel
theorem dX5_take_19 : decode cX5_take 19 = .ok (.iload_n 2, 1) := by decide +kernel
theorem dX5_take_20 : decode cX5_take 20 = .ok (.invokespecial 29, 3) := by decide +kernel
theorem dX5_take_23 : decode cX5_take 23 = .ok (.astore_n 3, 1) := by decide +kernel
theorem dX5_take_24 : decode cX5_take 24 = .ok (.aload_n 0, 1) := by decide +kernel
theorem dX5_take_25 : decode cX5_take 25 = .ok (.getfield 16, 3) := by decide +kernel
theorem dX5_take_28 : decode cX5_take 28 = .ok (.aload_n 3, 1) := by decide +kernel
theorem dX5_take_29 : decode cX5_take 29 = .ok (.invokevirtual 32, 3) := by decide +kernel
theorem dX5_take_32 : decode cX5_take 32 = .ok (.pop, 1) := by decide +kernel
theorem dX5_take_33 : decode cX5_take 33 = .ok (.aload_n 3, 1) := by decide +kernel
theorem dX5_take_34 : decode cX5_take 34 = .ok (.areturn, 1) := by decide +kernel
theorem dX5_take_35 : decode cX5_take 35 = .ok (.aload_n 0, 1) := by decide +kernel
theorem dX5_take_36 : decode cX5_take 36 = .ok (.getfield 20, 3) := by decide +kernel
theorem dX5_take_39 : decode cX5_take 39 = .ok (.aload_n 0, 1) := by decide +kernel
theorem dX5_take_40 : decode cX5_take 40 = .ok (.getfield 20, 3) := by decide +kernel
theorem dX5_take_43 : decode cX5_take 43 = .ok (.invokevirtual 36, 3) := by decide +kernel
theorem dX5_take_46 : decode cX5_take 46 = .ok (.iconst 1, 1) := by decide +kernel
theorem dX5_take_47 : decode cX5_take 47 = .ok (.isub, 1) := by decide +kernel
theorem dX5_take_48 : decode cX5_take 48 = .ok (.invokevirtual 40, 3) := by decide +kernel
theorem dX5_take_51 : decode cX5_take 51 = .ok (.checkcast 27, 3) := by decide +kernel
theorem dX5_take_54 : decode cX5_take 54 = .ok (.astore_n 3, 1) := by decide +kernel
theorem dX5_take_55 : decode cX5_take 55 = .ok (.aload_n 3, 1) := by decide +kernel
theorem dX5_take_56 : decode cX5_take 56 = .ok (.aload_n 1, 1) := by decide +kernel
theorem dX5_take_57 : decode cX5_take 57 = .ok (.putfield 44, 3) := by decide +kernel
theorem dX5_take_60 : decode cX5_take 60 = .ok (.aload_n 3, 1) := by decide +kernel
theorem dX5_take_61 : decode cX5_take 61 = .ok (.iload_n 2, 1) := by decide +kernel
theorem dX5_take_62 : decode cX5_take 62 = .ok (.putfield 48, 3) := by decide +kernel
theorem dX5_take_65 : decode cX5_take 65 = .ok (.aload_n 3, 1) := by decide +kernel
theorem dX5_take_66 : decode cX5_take 66 = .ok (.areturn, 1) := by decide +kernel
theorem dX5_takeBack_0 : decode cX5_takeBack 0 = .ok (.aload_n 1, 1) := by decide +kernel
theorem dX5_takeBack_1 : decode cX5_takeBack 1 = .ok (.invokevirtual 52, 3) := by decide +kernel
theorem dX5_takeBack_4 : decode cX5_takeBack 4 = .ok (.aload_n 0, 1) := by decide +kernel
theorem dX5_takeBack_5 : decode cX5_takeBack 5 = .ok (.getfield 20, 3) := by decide +kernel
theorem dX5_takeBack_8 : decode cX5_takeBack 8 = .ok (.aload_n 1, 1) := by decide +kernel
theorem dX5_takeBack_9 : decode cX5_takeBack 9 = .ok (.invokevirtual 32, 3) := by decide +kernel
theorem dX5_takeBack_12 : decode cX5_takeBack 12 = .ok (.pop, 1) := by decide +kernel
theorem dX5_takeBack_13 : decode cX5_takeBack 13 = .ok (.return_, 1) := by decide +kernel
theorem dX5_takeAllBack_0 : decode cX5_takeAllBack 0 = .ok (.aload_n 0, 1) := by decide +kernel
theorem dX5_takeAllBack_1 : decode cX5_takeAllBack 1 = .ok (.getfield 20, 3) := by decide +kernel
theorem dX5_takeAllBack_4 : decode cX5_takeAllBack 4 = .ok (.invokevirtual 55, 3) := by decide +kernel
theorem dX5_takeAllBack_7 : decode cX5_takeAllBack 7 = .ok (.iconst 0, 1) := by decide +kernel
theorem dX5_takeAllBack_8 : decode cX5_takeAllBack 8 = .ok (.istore_n 1, 1) := by decide +kernel
theorem dX5_takeAllBack_9 : decode cX5_takeAllBack 9 = .ok (.iload_n 1, 1) := by decide +kernel
theorem dX5_takeAllBack_10 : decode cX5_takeAllBack 10 = .ok (.aload_n 0, 1) := by decide +kernel
theorem dX5_takeAllBack_11 : decode cX5_takeAllBack 11 = .ok (.getfield 16, 3) := by decide +kernel
theorem dX5_takeAllBack_14 : decode cX5_takeAllBack 14 = .ok (.invokevirtual 36, 3) := by decide +kernel
theorem dX5_takeAllBack_17 : decode cX5_takeAllBack 17 = .ok (.if_icmp .ge 24, 3) := by decide +kernel
theorem dX5_takeAllBack_20 : decode cX5_takeAllBack 20 = .ok (.aload_n 0, 1) := by decide +kernel
theorem dX5_takeAllBack_21 : decode cX5_takeAllBack 21 = .ok (.aload_n 0, 1) := by decide +kernel
theorem dX5_takeAllBack_22 : decode cX5_takeAllBack 22 = .ok (.getfield 16, 3) := by decide +kernel
theorem dX5_takeAllBack_25 : decode cX5_takeAllBack 25 = .ok (.iload_n 1, 1) := by decide +kernel
theorem dX5_takeAllBack_26 : decode cX5_takeAllBack 26 = .ok (.invokevirtual 58, 3) := by decide +kernel
theorem dX5_takeAllBack_29 : decode cX5_takeAllBack 29 = .ok (.checkcast 27, 3) := by decide +kernel
theorem dX5_takeAllBack_32 : decode cX5_takeAllBack 32 = .ok (.invokevirtual 61, 3) := by decide +kernel
theorem dX5_takeAllBack_35 : decode cX5_takeAllBack 35 = .ok (.iinc 1 1, 3) := by decide +kernel
theorem dX5_takeAllBack_38 : decode cX5_takeAllBack 38 = .ok (.goto (-29), 3) := by decide +kernel
theorem dX5_takeAllBack_41 : decode cX5_takeAllBack 41 = .ok (.return_, 1) := by decide +kernel
theorem dX6_init_0 : decode cX6_init 0 = .ok (.aload_n 0, 1) := by decide +kernel
theorem dX6_init_1 : decode cX6_init 1 = .ok (.invokespecial 3, 3) := by decide +kernel
theorem dX6_init_4 : decode cX6_init 4 = .ok (.aload_n 0, 1) := by decide +kernel
theorem dX6_init_5 : decode cX6_init 5 = .ok (.iload_n 1, 1) := by decide +kernel
theorem dX6_init_6 : decode cX6_init 6 = .ok (.putfield 9, 3) := by decide +kernel
theorem dX6_init_9 : decode cX6_init 9 = .ok (.aload_n 0, 1) := by decide +kernel
theorem dX6_init_10 : decode cX6_init 10 = .ok (.iload_n 2, 1) := by decide +kernel
theorem dX6_init_11 : decode cX6_init 11 = .ok (.putfield 15, 3) := by decide +kernel
theorem dX6_init_14 : decode cX6_init 14 = .ok (.aload_n 0, 1) := by decide +kernel
theorem dX6_init_15 : decode cX6_init 15 = .ok (.iload_n 3, 1) := by decide +kernel
theorem dX6_init_16 : decode cX6_init 16 = .ok (.putfield 18, 3) := by decide +kernel
theorem dX6_init_19 : decode cX6_init 19 = .ok (.aload_n 0, 1) := by decide +kernel
theorem dX6_init_20 : decode cX6_init 20 = .ok (.iload 4, 2) := by decide +kernel
theorem dX6_init_22 : decode cX6_init 22 = .ok (.putfield 21, 3) := by decide +kernel
theorem dX6_init_25 : decode cX6_init 25 = .ok (.aload_n 0, 1) := by decide +kernel
theorem dX6_init_26 : decode cX6_init 26 = .ok (.iload 5, 2) := by decide +kernel
theorem dX6_init_28 : decode cX6_init 28 = .ok (.putfield 24, 3) := by decide +kernel
theorem dX6_init_31 : decode cX6_init 31 = .ok (.aload_n 0, 1) := by decide +kernel
theorem dX6_init_32 : decode cX6_init 32 = .ok (.iload 6, 2) := by decide +kernel
theorem dX6_init_34 : decode cX6_init 34 = .ok (.putfield 27, 3) := by decide +kernel
theorem dX6_init_37 : decode cX6_init 37 = .ok (.aload_n 0, 1) := by decide +kernel
theorem dX6_init_38 : decode cX6_init 38 = .ok (.new 30, 3) := by decide +kernel
theorem dX6_init_41 : decode cX6_init 41 = .ok (.dup, 1) := by decide +kernel
theorem dX6_init_42 : decode cX6_init 42 = .ok (.invokespecial 32, 3) := by decide +kernel
theorem dX6_init_45 : decode cX6_init 45 = .ok (.putfield 33, 3) := by decide +kernel
theorem dX6_init_48 : decode cX6_init 48 = .ok (.aload_n 0, 1) := by decide +kernel
theorem dX6_init_49 : decode cX6_init 49 = .ok (.new 30, 3) := by decide +kernel
theorem dX6_init_52 : decode cX6_init 52 = .ok (.dup, 1) := by decide +kernel
theorem dX6_init_53 : decode cX6_init 53 = .ok (.invokespecial 32, 3) := by decide +kernel
theorem dX6_init_56 : decode cX6_init 56 = .ok (.putfield 37, 3) := by decide +kernel
theorem dX6_init_59 : decode cX6_init 59 = .ok (.return_, 1) := by decide +kernel
theorem dX6_hasSide_0 : decode cX6_hasSide 0 = .ok (.iload_n 1, 1) := by decide +kernel
theorem dX6_hasSide_1 : decode cX6_hasSide 1 = .ok (.ifCond .eq 17, 3) := by decide +kernel
theorem dX6_hasSide_4 : decode cX6_hasSide 4 = .ok (.iload_n 1, 1) := by decide +kernel
theorem dX6_hasSide_5 : decode cX6_hasSide 5 = .ok (.iconst 1, 1) := by decide +kernel
theorem dX6_hasSide_6 : decode cX6_hasSide 6 = .ok (.if_icmp .ne 16, 3) := by decide +kernel
theorem dX6_hasSide_9 : decode cX6_hasSide 9 = .ok (.aload_n 0, 1) := by decide +kernel
theorem dX6_hasSide_10 : decode cX6_hasSide 10 = .ok (.getfield 15, 3) := by decide +kernel
theorem dX6_hasSide_13 : decode cX6_hasSide 13 = .ok (.bipush 7, 2) := by decide +kernel
theorem dX6_hasSide_15 : decode cX6_hasSide 15 = .ok (.if_icmp .ne 7, 3) := by decide +kernel
theorem dX6_hasSide_18 : decode cX6_hasSide 18 = .ok (.iconst 1, 1) := by decide +kernel
theorem dX6_hasSide_19 : decode cX6_hasSide 19 = .ok (.goto 4, 3) := by decide +kernel
theorem dX6_hasSide_22 : decode cX6_hasSide 22 = .ok (.iconst 0, 1) := by decide +kernel
theorem dX6_hasSide_23 : decode cX6_hasSide 23 = .ok (.ireturn, 1) := by decide +kernel
theorem dX6_hasPort_0 : decode cX6_hasPort 0 = .ok (.iload_n 1, 1) := by decide +kernel
theorem dX6_hasPort_1 : decode cX6_hasPort 1 = .ok (.ifCond .lt 15, 3) := by decide +kernel
theorem dX6_hasPort_4 : decode cX6_hasPort 4 = .ok (.iload_n 1, 1) := by decide +kernel
theorem dX6_hasPort_5 : decode cX6_hasPort 5 = .ok (.aload_n 0, 1) := by decide +kernel
theorem dX6_hasPort_6 : decode cX6_hasPort 6 = .ok (.getfield 21, 3) := by decide +kernel
theorem dX6_hasPort_9 : decode cX6_hasPort 9 = .ok (.if_icmp .ge 7, 3) := by decide +kernel
theorem dX6_hasPort_12 : decode cX6_hasPort 12 = .ok (.iconst 1, 1) := by decide +kernel
theorem dX6_hasPort_13 : decode cX6_hasPort 13 = .ok (.goto 4, 3) := by decide +kernel
theorem dX6_hasPort_16 : decode cX6_hasPort 16 = .ok (.iconst 0, 1) := by decide +kernel
theorem dX6_hasPort_17 : decode cX6_hasPort 17 = .ok (.ireturn, 1) := by decide +kernel
theorem dX6_addArc_0 : decode cX6_addArc 0 = .ok (.aload_n 0, 1) := by decide +kernel
theorem dX6_addArc_1 : decode cX6_addArc 1 = .ok (.getfield 33, 3) := by decide +kernel
theorem dX6_addArc_4 : decode cX6_addArc 4 = .ok (.invokevirtual 40, 3) := by decide +kernel
theorem dX6_addArc_7 : decode cX6_addArc 7 = .ok (.bipush 6, 2) := by decide +kernel
theorem dX6_addArc_9 : decode cX6_addArc 9 = .ok (.if_icmp .lt 5, 3) := by decide +kernel
theorem dX6_addArc_12 : decode cX6_addArc 12 = .ok (.iconst 0, 1) := by decide +kernel
theorem dX6_addArc_13 : decode cX6_addArc 13 = .ok (.ireturn, 1) := by decide +kernel
theorem dX6_addArc_14 : decode cX6_addArc 14 = .ok (.aload_n 0, 1) := by decide +kernel
theorem dX6_addArc_15 : decode cX6_addArc 15 = .ok (.getfield 33, 3) := by decide +kernel
theorem dX6_addArc_18 : decode cX6_addArc 18 = .ok (.new 44, 3) := by decide +kernel
theorem dX6_addArc_21 : decode cX6_addArc 21 = .ok (.dup, 1) := by decide +kernel
theorem dX6_addArc_22 : decode cX6_addArc 22 = .ok (.iload_n 1, 1) := by decide +kernel
theorem dX6_addArc_23 : decode cX6_addArc 23 = .ok (.aload_n 2, 1) := by decide +kernel
theorem dX6_addArc_24 : decode cX6_addArc 24 = .ok (.iload_n 3, 1) := by decide +kernel
theorem dX6_addArc_25 : decode cX6_addArc 25 = .ok (.invokespecial 46, 3) := by decide +kernel
theorem dX6_addArc_28 : decode cX6_addArc 28 = .ok (.invokevirtual 49, 3) := by decide +kernel
theorem dX6_addArc_31 : decode cX6_addArc 31 = .ok (.pop, 1) := by decide +kernel
theorem dX6_addArc_32 : decode cX6_addArc 32 = .ok (.iconst 1, 1) := by decide +kernel
theorem dX6_addArc_33 : decode cX6_addArc 33 = .ok (.ireturn, 1) := by decide +kernel
theorem dX6_frameIn_0 : decode cX6_frameIn 0 = .ok (.iconst 0, 1) := by decide +kernel
theorem dX6_frameIn_1 : decode cX6_frameIn 1 = .ok (.istore_n 2, 1) := by decide +kernel
theorem dX6_frameIn_2 : decode cX6_frameIn 2 = .ok (.iload_n 2, 1) := by decide +kernel
theorem dX6_frameIn_3 : decode cX6_frameIn 3 = .ok (.aload_n 0, 1) := by decide +kernel
theorem dX6_frameIn_4 : decode cX6_frameIn 4 = .ok (.getfield 37, 3) := by decide +kernel
theorem dX6_frameIn_7 : decode cX6_frameIn 7 = .ok (.invokevirtual 40, 3) := by decide +kernel
theorem dX6_frameIn_10 : decode cX6_frameIn 10 = .ok (.if_icmp .ge 31, 3) := by decide +kernel
theorem dX6_frameIn_13 : decode cX6_frameIn 13 = .ok (.aload_n 0, 1) := by decide +kernel
theorem dX6_frameIn_14 : decode cX6_frameIn 14 = .ok (.getfield 37, 3) := by decide +kernel
theorem dX6_frameIn_17 : decode cX6_frameIn 17 = .ok (.iload_n 2, 1) := by decide +kernel
theorem dX6_frameIn_18 : decode cX6_frameIn 18 = .ok (.invokevirtual 53, 3) := by decide +kernel
theorem dX6_frameIn_21 : decode cX6_frameIn 21 = .ok (.checkcast 57, 3) := by decide +kernel
theorem dX6_frameIn_24 : decode cX6_frameIn 24 = .ok (.astore_n 3, 1) := by decide +kernel
theorem dX6_frameIn_25 : decode cX6_frameIn 25 = .ok (.aload_n 3, 1) := by decide +kernel
theorem dX6_frameIn_26 : decode cX6_frameIn 26 = .ok (.getfield 59, 3) := by decide +kernel
theorem dX6_frameIn_29 : decode cX6_frameIn 29 = .ok (.iload_n 1, 1) := by decide +kernel
theorem dX6_frameIn_30 : decode cX6_frameIn 30 = .ok (.if_icmp .ne 5, 3) := by decide +kernel
theorem dX6_frameIn_33 : decode cX6_frameIn 33 = .ok (.aload_n 3, 1) := by decide +kernel
theorem dX6_frameIn_34 : decode cX6_frameIn 34 = .ok (.areturn, 1) := by decide +kernel
theorem dX6_frameIn_35 : decode cX6_frameIn 35 = .ok (.iinc 2 1, 3) := by decide +kernel
theorem dX6_frameIn_38 : decode cX6_frameIn 38 = .ok (.goto (-36), 3) := by decide +kernel
theorem dX6_frameIn_41 : decode cX6_frameIn 41 = .ok (.aconst_null, 1) := by decide +kernel
theorem dX6_frameIn_42 : decode cX6_frameIn 42 = .ok (.areturn, 1) := by decide +kernel
theorem dX6_dropFrameIn_0 : decode cX6_dropFrameIn 0 = .ok (.iconst 0, 1) := by decide +kernel
theorem dX6_dropFrameIn_1 : decode cX6_dropFrameIn 1 = .ok (.istore_n 2, 1) := by decide +kernel
theorem dX6_dropFrameIn_2 : decode cX6_dropFrameIn 2 = .ok (.iload_n 2, 1) := by decide +kernel
theorem dX6_dropFrameIn_3 : decode cX6_dropFrameIn 3 = .ok (.aload_n 0, 1) := by decide +kernel
theorem dX6_dropFrameIn_4 : decode cX6_dropFrameIn 4 = .ok (.getfield 37, 3) := by decide +kernel
theorem dX6_dropFrameIn_7 : decode cX6_dropFrameIn 7 = .ok (.invokevirtual 40, 3) := by decide +kernel
theorem dX6_dropFrameIn_10 : decode cX6_dropFrameIn 10 = .ok (.if_icmp .ge 37, 3) := by decide +kernel
theorem dX6_dropFrameIn_13 : decode cX6_dropFrameIn 13 = .ok (.aload_n 0, 1) := by decide +kernel
theorem dX6_dropFrameIn_14 : decode cX6_dropFrameIn 14 = .ok (.getfield 37, 3) := by decide +kernel
theorem dX6_dropFrameIn_17 : decode cX6_dropFrameIn 17 = .ok (.iload_n 2, 1) := by decide +kernel
theorem dX6_dropFrameIn_18 : decode cX6_dropFrameIn 18 = .ok (.invokevirtual 53, 3) := by decide +kernel
theorem dX6_dropFrameIn_21 : decode cX6_dropFrameIn 21 = .ok (.checkcast 57, 3) := by decide +kernel
theorem dX6_dropFrameIn_24 : decode cX6_dropFrameIn 24 = .ok (.getfield 59, 3) := by decide +kernel
theorem dX6_dropFrameIn_27 : decode cX6_dropFrameIn 27 = .ok (.iload_n 1, 1) := by decide +kernel
theorem dX6_dropFrameIn_28 : decode cX6_dropFrameIn 28 = .ok (.if_icmp .ne 13, 3) := by decide +kernel
theorem dX6_dropFrameIn_31 : decode cX6_dropFrameIn 31 = .ok (.aload_n 0, 1) := by decide +kernel
theorem dX6_dropFrameIn_32 : decode cX6_dropFrameIn 32 = .ok (.getfield 37, 3) := by decide +kernel
theorem dX6_dropFrameIn_35 : decode cX6_dropFrameIn 35 = .ok (.iload_n 2, 1) := by decide +kernel
theorem dX6_dropFrameIn_36 : decode cX6_dropFrameIn 36 = .ok (.invokevirtual 62, 3) := by decide +kernel
theorem dX6_dropFrameIn_39 : decode cX6_dropFrameIn 39 = .ok (.pop, 1) := by decide +kernel
theorem dX6_dropFrameIn_40 : decode cX6_dropFrameIn 40 = .ok (.return_, 1) := by decide +kernel
theorem dX6_dropFrameIn_41 : decode cX6_dropFrameIn 41 = .ok (.iinc 2 1, 3) := by decide +kernel
theorem dX6_dropFrameIn_44 : decode cX6_dropFrameIn 44 = .ok (.goto (-42), 3) := by decide +kernel
theorem dX6_dropFrameIn_47 : decode cX6_dropFrameIn 47 = .ok (.return_, 1) := by decide +kernel
theorem dX7_init_0 : decode cX7_init 0 = .ok (.aload_n 0, 1) := by decide +kernel
theorem dX7_init_1 : decode cX7_init 1 = .ok (.invokespecial 1, 3) := by decide +kernel
theorem dX7_init_4 : decode cX7_init 4 = .ok (.aload_n 0, 1) := by decide +kernel
theorem dX7_init_5 : decode cX7_init 5 = .ok (.aload_n 1, 1) := by decide +kernel
theorem dX7_init_6 : decode cX7_init 6 = .ok (.putfield 7, 3) := by decide +kernel
theorem dX7_init_9 : decode cX7_init 9 = .ok (.aload_n 0, 1) := by decide +kernel
theorem dX7_init_10 : decode cX7_init 10 = .ok (.iload_n 2, 1) := by decide +kernel
theorem dX7_init_11 : decode cX7_init 11 = .ok (.putfield 13, 3) := by decide +kernel
theorem dX7_init_14 : decode cX7_init 14 = .ok (.return_, 1) := by decide +kernel
theorem dX8_init_0 : decode cX8_init 0 = .ok (.aload_n 0, 1) := by decide +kernel
theorem dX8_init_1 : decode cX8_init 1 = .ok (.invokespecial 1, 3) := by decide +kernel
theorem dX8_init_4 : decode cX8_init 4 = .ok (.aload_n 0, 1) := by decide +kernel
theorem dX8_init_5 : decode cX8_init 5 = .ok (.iload_n 1, 1) := by decide +kernel
theorem dX8_init_6 : decode cX8_init 6 = .ok (.putfield 7, 3) := by decide +kernel
theorem dX8_init_9 : decode cX8_init 9 = .ok (.aload_n 0, 1) := by decide +kernel
theorem dX8_init_10 : decode cX8_init 10 = .ok (.lload_n 2, 1) := by decide +kernel
theorem dX8_init_11 : decode cX8_init 11 = .ok (.putfield 13, 3) := by decide +kernel
theorem dX8_init_14 : decode cX8_init 14 = .ok (.return_, 1) := by decide +kernel
theorem dX9_init_0 : decode cX9_init 0 = .ok (.aload_n 0, 1) := by decide +kernel
theorem dX9_init_1 : decode cX9_init 1 = .ok (.invokespecial 1, 3) := by decide +kernel
theorem dX9_init_4 : decode cX9_init 4 = .ok (.aload_n 0, 1) := by decide +kernel
theorem dX9_init_5 : decode cX9_init 5 = .ok (.new 7, 3) := by decide +kernel
theorem dX9_init_8 : decode cX9_init 8 = .ok (.dup, 1) := by decide +kernel
theorem dX9_init_9 : decode cX9_init 9 = .ok (.iconst 3, 1) := by decide +kernel
theorem dX9_init_10 : decode cX9_init 10 = .ok (.lconst 0, 1) := by decide +kernel
theorem dX9_init_11 : decode cX9_init 11 = .ok (.invokespecial 11, 3) := by decide +kernel
theorem dX9_init_14 : decode cX9_init 14 = .ok (.putfield 14, 3) := by decide +kernel
theorem dX9_init_17 : decode cX9_init 17 = .ok (.aload_n 0, 1) := by decide +kernel
theorem dX9_init_18 : decode cX9_init 18 = .ok (.new 18, 3) := by decide +kernel
theorem dX9_init_21 : decode cX9_init 21 = .ok (.dup, 1) := by decide +kernel
theorem dX9_init_22 : decode cX9_init 22 = .ok (.invokespecial 20, 3) := by decide +kernel
theorem dX9_init_25 : decode cX9_init 25 = .ok (.putfield 21, 3) := by decide +kernel
theorem dX9_init_28 : decode cX9_init 28 = .ok (.aload_n 0, 1) := by decide +kernel
theorem dX9_init_29 : decode cX9_init 29 = .ok (.new 25, 3) := by decide +kernel
theorem dX9_init_32 : decode cX9_init 32 = .ok (.dup, 1) := by decide +kernel
theorem dX9_init_33 : decode cX9_init 33 = .ok (.aload_n 0, 1) := by decide +kernel
theorem dX9_init_34 : decode cX9_init 34 = .ok (.getfield 14, 3) := by decide +kernel
theorem dX9_init_37 : decode cX9_init 37 = .ok (.invokespecial 27, 3) := by decide +kernel
theorem dX9_init_40 : decode cX9_init 40 = .ok (.putfield 30, 3) := by decide +kernel
theorem dX9_init_43 : decode cX9_init 43 = .ok (.aload_n 0, 1) := by decide +kernel
theorem dX9_init_44 : decode cX9_init 44 = .ok (.new 18, 3) := by decide +kernel
theorem dX9_init_47 : decode cX9_init 47 = .ok (.dup, 1) := by decide +kernel
theorem dX9_init_48 : decode cX9_init 48 = .ok (.invokespecial 20, 3) := by decide +kernel
theorem dX9_init_51 : decode cX9_init 51 = .ok (.putfield 34, 3) := by decide +kernel
theorem dX9_init_54 : decode cX9_init 54 = .ok (.aload_n 0, 1) := by decide +kernel
theorem dX9_init_55 : decode cX9_init 55 = .ok (.new 37, 3) := by decide +kernel
theorem dX9_init_58 : decode cX9_init 58 = .ok (.dup, 1) := by decide +kernel
theorem dX9_init_59 : decode cX9_init 59 = .ok (.invokespecial 39, 3) := by decide +kernel
theorem dX9_init_62 : decode cX9_init 62 = .ok (.putfield 40, 3) := by decide +kernel
theorem dX9_init_65 : decode cX9_init 65 = .ok (.aload_n 0, 1) := by decide +kernel
theorem dX9_init_66 : decode cX9_init 66 = .ok (.new 44, 3) := by decide +kernel
theorem dX9_init_69 : decode cX9_init 69 = .ok (.dup, 1) := by decide +kernel
theorem dX9_init_70 : decode cX9_init 70 = .ok (.aload_n 0, 1) := by decide +kernel
theorem dX9_init_71 : decode cX9_init 71 = .ok (.getfield 14, 3) := by decide +kernel
theorem dX9_init_74 : decode cX9_init 74 = .ok (.invokespecial 46, 3) := by decide +kernel
theorem dX9_init_77 : decode cX9_init 77 = .ok (.putfield 47, 3) := by decide +kernel
theorem dX9_init_80 : decode cX9_init 80 = .ok (.aload_n 0, 1) := by decide +kernel
theorem dX9_init_81 : decode cX9_init 81 = .ok (.new 18, 3) := by decide +kernel
theorem dX9_init_84 : decode cX9_init 84 = .ok (.dup, 1) := by decide +kernel
theorem dX9_init_85 : decode cX9_init 85 = .ok (.invokespecial 20, 3) := by decide +kernel
theorem dX9_init_88 : decode cX9_init 88 = .ok (.putfield 51, 3) := by decide +kernel
theorem dX9_init_91 : decode cX9_init 91 = .ok (.return_, 1) := by decide +kernel
theorem dX9_node_0 : decode cX9_node 0 = .ok (.iload_n 1, 1) := by decide +kernel
theorem dX9_node_1 : decode cX9_node 1 = .ok (.ifCond .lt 11, 3) := by decide +kernel
theorem dX9_node_4 : decode cX9_node 4 = .ok (.iload_n 1, 1) := by decide +kernel
theorem dX9_node_5 : decode cX9_node 5 = .ok (.getstatic 54, 3) := by decide +kernel
theorem dX9_node_8 : decode cX9_node 8 = .ok (.arraylength, 1) := by decide +kernel
theorem dX9_node_9 : decode cX9_node 9 = .ok (.if_icmp .lt 13, 3) := by decide +kernel
theorem dX9_node_12 : decode cX9_node 12 = .ok (.new 58, 3) := by decide +kernel
theorem dX9_node_15 : decode cX9_node 15 = .ok (.dup, 1) := by decide +kernel
theorem dX9_node_16 : decode cX9_node 16 = .ok (.ldc 60, 2) := by decide +kernel
theorem dX9_node_18 : decode cX9_node 18 = .ok (.invokespecial 62, 3) := by decide +kernel
theorem dX9_node_21 : decode cX9_node 21 = .ok (.athrow, 1) := by decide +kernel
theorem dX9_node_22 : decode cX9_node 22 = .ok (.aload_n 0, 1) := by decide +kernel
theorem dX9_node_23 : decode cX9_node 23 = .ok (.getfield 21, 3) := by decide +kernel
theorem dX9_node_26 : decode cX9_node 26 = .ok (.invokevirtual 65, 3) := by decide +kernel
theorem dX9_node_29 : decode cX9_node 29 = .ok (.bipush 40, 2) := by decide +kernel
theorem dX9_node_31 : decode cX9_node 31 = .ok (.if_icmp .ge 10, 3) := by decide +kernel
theorem dX9_node_34 : decode cX9_node 34 = .ok (.aload_n 0, 1) := by decide +kernel
theorem dX9_node_35 : decode cX9_node 35 = .ok (.getfield 69, 3) := by decide +kernel
theorem dX9_node_38 : decode cX9_node 38 = .ok (.ifCond .eq 13, 3) := by decide +kernel
theorem dX9_node_41 : decode cX9_node 41 = .ok (.new 73, 3) := by decide +kernel
theorem dX9_node_44 : decode cX9_node 44 = .ok (.dup, 1) := by decide +kernel
theorem dX9_node_45 : decode cX9_node 45 = .ok (.ldc 75, 2) := by decide +kernel
theorem dX9_node_47 : decode cX9_node 47 = .ok (.invokespecial 77, 3) := by decide +kernel
theorem dX9_node_50 : decode cX9_node 50 = .ok (.athrow, 1) := by decide +kernel
theorem dX9_node_51 : decode cX9_node 51 = .ok (.aload_n 0, 1) := by decide +kernel
theorem dX9_node_52 : decode cX9_node 52 = .ok (.getfield 21, 3) := by decide +kernel
theorem dX9_node_55 : decode cX9_node 55 = .ok (.invokevirtual 65, 3) := by decide +kernel
theorem dX9_node_58 : decode cX9_node 58 = .ok (.istore_n 3, 1) := by decide +kernel
theorem dX9_node_59 : decode cX9_node 59 = .ok (.aload_n 0, 1) := by decide +kernel
theorem dX9_node_60 : decode cX9_node 60 = .ok (.getfield 21, 3) := by decide +kernel
theorem dX9_node_63 : decode cX9_node 63 = .ok (.new 78, 3) := by decide +kernel
theorem dX9_node_66 : decode cX9_node 66 = .ok (.dup, 1) := by decide +kernel
theorem dX9_node_67 : decode cX9_node 67 = .ok (.iload_n 3, 1) := by decide +kernel
theorem dX9_node_68 : decode cX9_node 68 = .ok (.iload_n 1, 1) := by decide +kernel
theorem dX9_node_69 : decode cX9_node 69 = .ok (.iload_n 2, 1) := by decide +kernel
theorem dX9_node_70 : decode cX9_node 70 = .ok (.getstatic 54, 3) := by decide +kernel
theorem dX9_node_73 : decode cX9_node 73 = .ok (.iload_n 1, 1) := by decide +kernel
theorem dX9_node_74 : decode cX9_node 74 = .ok (.iaload, 1) := by decide +kernel
theorem dX9_node_75 : decode cX9_node 75 = .ok (.getstatic 80, 3) := by decide +kernel
theorem dX9_node_78 : decode cX9_node 78 = .ok (.iload_n 1, 1) := by decide +kernel
theorem dX9_node_79 : decode cX9_node 79 = .ok (.iaload, 1) := by decide +kernel
theorem dX9_node_80 : decode cX9_node 80 = .ok (.getstatic 83, 3) := by decide +kernel
theorem dX9_node_83 : decode cX9_node 83 = .ok (.iload_n 1, 1) := by decide +kernel
theorem dX9_node_84 : decode cX9_node 84 = .ok (.iaload, 1) := by decide +kernel
theorem dX9_node_85 : decode cX9_node 85 = .ok (.invokespecial 86, 3) := by decide +kernel
theorem dX9_node_88 : decode cX9_node 88 = .ok (.invokevirtual 89, 3) := by decide +kernel
theorem dX9_node_91 : decode cX9_node 91 = .ok (.pop, 1) := by decide +kernel
theorem dX9_node_92 : decode cX9_node 92 = .ok (.iload_n 3, 1) := by decide +kernel
theorem dX9_node_93 : decode cX9_node 93 = .ok (.ireturn, 1) := by decide +kernel
theorem dX9_arc_0 : decode cX9_arc 0 = .ok (.aload_n 0, 1) := by decide +kernel
theorem dX9_arc_1 : decode cX9_arc 1 = .ok (.iload_n 1, 1) := by decide +kernel
theorem dX9_arc_2 : decode cX9_arc 2 = .ok (.invokevirtual 93, 3) := by decide +kernel
theorem dX9_arc_5 : decode cX9_arc 5 = .ok (.astore 5, 2) := by decide +kernel
theorem dX9_arc_7 : decode cX9_arc 7 = .ok (.aload_n 0, 1) := by decide +kernel
theorem dX9_arc_8 : decode cX9_arc 8 = .ok (.iload_n 3, 1) := by decide +kernel
theorem dX9_arc_9 : decode cX9_arc 9 = .ok (.invokevirtual 93, 3) := by decide +kernel
theorem dX9_arc_12 : decode cX9_arc 12 = .ok (.astore 6, 2) := by decide +kernel
theorem dX9_arc_14 : decode cX9_arc 14 = .ok (.aload_n 0, 1) := by decide +kernel
theorem dX9_arc_15 : decode cX9_arc 15 = .ok (.getfield 69, 3) := by decide +kernel
theorem dX9_arc_18 : decode cX9_arc 18 = .ok (.ifCond .ne 13, 3) := by decide +kernel
theorem dX9_arc_21 : decode cX9_arc 21 = .ok (.aload 5, 2) := by decide +kernel
theorem dX9_arc_23 : decode cX9_arc 23 = .ok (.ifnull 8, 3) := by decide +kernel
theorem dX9_arc_26 : decode cX9_arc 26 = .ok (.aload 6, 2) := by decide +kernel
theorem dX9_arc_28 : decode cX9_arc 28 = .ok (.ifnonnull 5, 3) := by decide +kernel
theorem dX9_arc_31 : decode cX9_arc 31 = .ok (.iconst 0, 1) := by decide +kernel
theorem dX9_arc_32 : decode cX9_arc 32 = .ok (.ireturn, 1) := by decide +kernel
theorem dX9_arc_33 : decode cX9_arc 33 = .ok (.aload 5, 2) := by decide +kernel
theorem dX9_arc_35 : decode cX9_arc 35 = .ok (.iload_n 2, 1) := by decide +kernel
theorem dX9_arc_36 : decode cX9_arc 36 = .ok (.invokevirtual 97, 3) := by decide +kernel
theorem dX9_arc_39 : decode cX9_arc 39 = .ok (.ifCond .eq 13, 3) := by decide +kernel
theorem dX9_arc_42 : decode cX9_arc 42 = .ok (.aload 6, 2) := by decide +kernel
theorem dX9_arc_44 : decode cX9_arc 44 = .ok (.iload 4, 2) := by decide +kernel
theorem dX9_arc_46 : decode cX9_arc 46 = .ok (.invokevirtual 101, 3) := by decide +kernel
theorem dX9_arc_49 : decode cX9_arc 49 = .ok (.ifCond .ne 5, 3) := by decide +kernel
theorem dX9_arc_52 : decode cX9_arc 52 = .ok (.iconst 0, 1) := by decide +kernel
theorem dX9_arc_53 : decode cX9_arc 53 = .ok (.ireturn, 1) := by decide +kernel
theorem dX9_arc_54 : decode cX9_arc 54 = .ok (.aload 5, 2) := by decide +kernel
theorem dX9_arc_56 : decode cX9_arc 56 = .ok (.iload_n 2, 1) := by decide +kernel
theorem dX9_arc_57 : decode cX9_arc 57 = .ok (.aload 6, 2) := by decide +kernel
theorem dX9_arc_59 : decode cX9_arc 59 = .ok (.iload 4, 2) := by decide +kernel
theorem dX9_arc_61 : decode cX9_arc 61 = .ok (.invokevirtual 104, 3) := by decide +kernel
theorem dX9_arc_64 : decode cX9_arc 64 = .ok (.ireturn, 1) := by decide +kernel
theorem dX9_token_0 : decode cX9_token 0 = .ok (.aload_n 0, 1) := by decide +kernel
theorem dX9_token_1 : decode cX9_token 1 = .ok (.iload_n 1, 1) := by decide +kernel
theorem dX9_token_2 : decode cX9_token 2 = .ok (.invokevirtual 93, 3) := by decide +kernel
theorem dX9_token_5 : decode cX9_token 5 = .ok (.astore 5, 2) := by decide +kernel
theorem dX9_token_7 : decode cX9_token 7 = .ok (.aload 5, 2) := by decide +kernel
theorem dX9_token_9 : decode cX9_token 9 = .ok (.ifnull 19, 3) := by decide +kernel
theorem dX9_token_12 : decode cX9_token 12 = .ok (.aload 5, 2) := by decide +kernel
theorem dX9_token_14 : decode cX9_token 14 = .ok (.iload_n 2, 1) := by decide +kernel
theorem dX9_token_15 : decode cX9_token 15 = .ok (.invokevirtual 101, 3) := by decide +kernel
theorem dX9_token_18 : decode cX9_token 18 = .ok (.ifCond .eq 10, 3) := by decide +kernel
theorem dX9_token_21 : decode cX9_token 21 = .ok (.aload_n 0, 1) := by decide +kernel
theorem dX9_token_22 : decode cX9_token 22 = .ok (.getfield 108, 3) := by decide +kernel
theorem dX9_token_25 : decode cX9_token 25 = .ok (.ifCond .eq 5, 3) := by decide +kernel
theorem dX9_token_28 : decode cX9_token 28 = .ok (.iconst 0, 1) := by decide +kernel
theorem dX9_token_29 : decode cX9_token 29 = .ok (.ireturn, 1) := by decide +kernel
theorem dX9_token_30 : decode cX9_token 30 = .ok (.aload_n 0, 1) := by decide +kernel
theorem dX9_token_31 : decode cX9_token 31 = .ok (.iconst 1, 1) := by decide +kernel
theorem dX9_token_32 : decode cX9_token 32 = .ok (.putfield 69, 3) := by decide +kernel
theorem dX9_token_35 : decode cX9_token 35 = .ok (.aload_n 0, 1) := by decide +kernel
theorem dX9_token_36 : decode cX9_token 36 = .ok (.aload 5, 2) := by decide +kernel
theorem dX9_token_38 : decode cX9_token 38 = .ok (.iload_n 2, 1) := by decide +kernel
theorem dX9_token_39 : decode cX9_token 39 = .ok (.new 7, 3) := by decide +kernel
theorem dX9_token_42 : decode cX9_token 42 = .ok (.dup, 1) := by decide +kernel
theorem dX9_token_43 : decode cX9_token 43 = .ok (.iconst 0, 1) := by decide +kernel
theorem dX9_token_44 : decode cX9_token 44 = .ok (.lload_n 3, 1) := by decide +kernel
theorem dX9_token_45 : decode cX9_token 45 = .ok (.invokespecial 11, 3) := by decide +kernel
theorem dX9_token_48 : decode cX9_token 48 = .ok (.iconst 0, 1) := by decide +kernel
theorem dX9_token_49 : decode cX9_token 49 = .ok (.invokevirtual 112, 3) := by decide +kernel
theorem dX9_token_52 : decode cX9_token 52 = .ok (.iconst 1, 1) := by decide +kernel
theorem dX9_token_53 : decode cX9_token 53 = .ok (.ireturn, 1) := by decide +kernel
theorem dX9_run_0 : decode cX9_run 0 = .ok (.iload_n 1, 1) := by decide +kernel
theorem dX9_run_1 : decode cX9_run 1 = .ok (.iconst 1, 1) := by decide +kernel
theorem dX9_run_2 : decode cX9_run 2 = .ok (.if_icmp .lt 10, 3) := by decide +kernel
theorem dX9_run_5 : decode cX9_run 5 = .ok (.iload_n 1, 1) := by decide +kernel
theorem dX9_run_6 : decode cX9_run 6 = .ok (.sipush 500, 3) := by decide +kernel
theorem dX9_run_9 : decode cX9_run 9 = .ok (.if_icmp .le 13, 3) := by decide +kernel
theorem dX9_run_12 : decode cX9_run 12 = .ok (.new 58, 3) := by decide +kernel
theorem dX9_run_15 : decode cX9_run 15 = .ok (.dup, 1) := by decide +kernel
theorem dX9_run_16 : decode cX9_run 16 = .ok (.ldc 116, 2) := by decide +kernel
theorem dX9_run_18 : decode cX9_run 18 = .ok (.invokespecial 62, 3) := by decide +kernel
theorem dX9_run_21 : decode cX9_run 21 = .ok (.athrow, 1) := by decide +kernel
theorem dX9_run_22 : decode cX9_run 22 = .ok (.aload_n 0, 1) := by decide +kernel
theorem dX9_run_23 : decode cX9_run 23 = .ok (.getfield 118, 3) := by decide +kernel
theorem dX9_run_26 : decode cX9_run 26 = .ok (.sipush 5000, 3) := by decide +kernel
theorem dX9_run_29 : decode cX9_run 29 = .ok (.if_icmp .lt 13, 3) := by decide +kernel
theorem dX9_run_32 : decode cX9_run 32 = .ok (.new 73, 3) := by decide +kernel
theorem dX9_run_35 : decode cX9_run 35 = .ok (.dup, 1) := by decide +kernel
theorem dX9_run_36 : decode cX9_run 36 = .ok (.ldc 121, 2) := by decide +kernel
theorem dX9_run_38 : decode cX9_run 38 = .ok (.invokespecial 77, 3) := by decide +kernel
theorem dX9_run_41 : decode cX9_run 41 = .ok (.athrow, 1) := by decide +kernel
theorem dX9_run_42 : decode cX9_run 42 = .ok (.lload_n 2, 1) := by decide +kernel
theorem dX9_run_43 : decode cX9_run 43 = .ok (.lstore 4, 2) := by decide +kernel
theorem dX9_run_45 : decode cX9_run 45 = .ok (.iconst 0, 1) := by decide +kernel
theorem dX9_run_46 : decode cX9_run 46 = .ok (.istore 6, 2) := by decide +kernel
theorem dX9_run_48 : decode cX9_run 48 = .ok (.iload 6, 2) := by decide +kernel
theorem dX9_run_50 : decode cX9_run 50 = .ok (.iload_n 1, 1) := by decide +kernel
theorem dX9_run_51 : decode cX9_run 51 = .ok (.if_icmp .ge 102, 3) := by decide +kernel
theorem dX9_run_54 : decode cX9_run 54 = .ok (.aload_n 0, 1) := by decide +kernel
theorem dX9_run_55 : decode cX9_run 55 = .ok (.getfield 108, 3) := by decide +kernel
theorem dX9_run_58 : decode cX9_run 58 = .ok (.ifCond .ne 95, 3) := by decide +kernel
theorem dX9_run_61 : decode cX9_run 61 = .ok (.aload_n 0, 1) := by decide +kernel
theorem dX9_run_62 : decode cX9_run 62 = .ok (.getfield 118, 3) := by decide +kernel
theorem dX9_run_65 : decode cX9_run 65 = .ok (.sipush 5000, 3) := by decide +kernel
theorem dX9_run_68 : decode cX9_run 68 = .ok (.if_icmp .ge 85, 3) := by decide +kernel
theorem dX9_run_71 : decode cX9_run 71 = .ok (.aload_n 0, 1) := by decide +kernel
theorem dX9_run_72 : decode cX9_run 72 = .ok (.getfield 34, 3) := by decide +kernel
theorem dX9_run_75 : decode cX9_run 75 = .ok (.invokevirtual 65, 3) := by decide +kernel
theorem dX9_run_78 : decode cX9_run 78 = .ok (.istore 7, 2) := by decide +kernel
theorem dX9_run_80 : decode cX9_run 80 = .ok (.iload 7, 2) := by decide +kernel
theorem dX9_run_82 : decode cX9_run 82 = .ok (.ifCond .ne 6, 3) := by decide +kernel
theorem dX9_run_85 : decode cX9_run 85 = .ok (.goto 68, 3) := by decide +kernel
theorem dX9_run_88 : decode cX9_run 88 = .ok (.lload 4, 2) := by decide +kernel
theorem dX9_run_90 : decode cX9_run 90 = .ok (.iconst 1, 1) := by decide +kernel
theorem dX9_run_91 : decode cX9_run 91 = .ok (.lushr, 1) := by decide +kernel
theorem dX9_run_92 : decode cX9_run 92 = .ok (.iload 7, 2) := by decide +kernel
theorem dX9_run_94 : decode cX9_run 94 = .ok (.i2l, 1) := by decide +kernel
theorem dX9_run_95 : decode cX9_run 95 = .ok (.lrem, 1) := by decide +kernel
theorem dX9_run_96 : decode cX9_run 96 = .ok (.l2i, 1) := by decide +kernel
theorem dX9_run_97 : decode cX9_run 97 = .ok (.istore 8, 2) := by decide +kernel
theorem dX9_run_99 : decode cX9_run 99 = .ok (.lload 4, 2) := by decide +kernel
theorem dX9_run_101 : decode cX9_run 101 = .ok (.ldc2_w 123, 3) := by decide +kernel
theorem dX9_run_104 : decode cX9_run 104 = .ok (.lmul, 1) := by decide +kernel
theorem dX9_run_105 : decode cX9_run 105 = .ok (.ldc2_w 125, 3) := by decide +kernel
theorem dX9_run_108 : decode cX9_run 108 = .ok (.ladd, 1) := by decide +kernel
theorem dX9_run_109 : decode cX9_run 109 = .ok (.lstore 4, 2) := by decide +kernel
theorem dX9_run_111 : decode cX9_run 111 = .ok (.iinc 6 1, 3) := by decide +kernel
theorem dX9_run_114 : decode cX9_run 114 = .ok (.aload_n 0, 1) := by decide +kernel
theorem dX9_run_115 : decode cX9_run 115 = .ok (.dup, 1) := by decide +kernel
theorem dX9_run_116 : decode cX9_run 116 = .ok (.getfield 127, 3) := by decide +kernel
theorem dX9_run_119 : decode cX9_run 119 = .ok (.iconst 1, 1) := by decide +kernel
theorem dX9_run_120 : decode cX9_run 120 = .ok (.iadd, 1) := by decide +kernel
theorem dX9_run_121 : decode cX9_run 121 = .ok (.putfield 127, 3) := by decide +kernel
theorem dX9_run_124 : decode cX9_run 124 = .ok (.aload_n 0, 1) := by decide +kernel
theorem dX9_run_125 : decode cX9_run 125 = .ok (.dup, 1) := by decide +kernel
theorem dX9_run_126 : decode cX9_run 126 = .ok (.getfield 118, 3) := by decide +kernel
theorem dX9_run_129 : decode cX9_run 129 = .ok (.iconst 1, 1) := by decide +kernel
theorem dX9_run_130 : decode cX9_run 130 = .ok (.iadd, 1) := by decide +kernel
theorem dX9_run_131 : decode cX9_run 131 = .ok (.putfield 118, 3) := by decide +kernel
theorem dX9_run_134 : decode cX9_run 134 = .ok (.aload_n 0, 1) := by decide +kernel
theorem dX9_run_135 : decode cX9_run 135 = .ok (.aload_n 0, 1) := by decide +kernel
theorem dX9_run_136 : decode cX9_run 136 = .ok (.getfield 34, 3) := by decide +kernel
theorem dX9_run_139 : decode cX9_run 139 = .ok (.iload 8, 2) := by decide +kernel
theorem dX9_run_141 : decode cX9_run 141 = .ok (.invokevirtual 130, 3) := by decide +kernel
theorem dX9_run_144 : decode cX9_run 144 = .ok (.checkcast 134, 3) := by decide +kernel
theorem dX9_run_147 : decode cX9_run 147 = .ok (.invokevirtual 136, 3) := by decide +kernel
theorem dX9_run_150 : decode cX9_run 150 = .ok (.goto (-102), 3) := by decide +kernel
theorem dX9_run_153 : decode cX9_run 153 = .ok (.iload 6, 2) := by decide +kernel
theorem dX9_run_155 : decode cX9_run 155 = .ok (.ireturn, 1) := by decide +kernel
theorem dX9_clear_0 : decode cX9_clear 0 = .ok (.iload_n 1, 1) := by decide +kernel
theorem dX9_clear_1 : decode cX9_clear 1 = .ok (.ifCond .eq 10, 3) := by decide +kernel
theorem dX9_clear_4 : decode cX9_clear 4 = .ok (.aload_n 0, 1) := by decide +kernel
theorem dX9_clear_5 : decode cX9_clear 5 = .ok (.getfield 21, 3) := by decide +kernel
theorem dX9_clear_8 : decode cX9_clear 8 = .ok (.invokevirtual 140, 3) := by decide +kernel
theorem dX9_clear_11 : decode cX9_clear 11 = .ok (.iconst 0, 1) := by decide +kernel
theorem dX9_clear_12 : decode cX9_clear 12 = .ok (.istore_n 2, 1) := by decide +kernel
theorem dX9_clear_13 : decode cX9_clear 13 = .ok (.iload_n 2, 1) := by decide +kernel
theorem dX9_clear_14 : decode cX9_clear 14 = .ok (.aload_n 0, 1) := by decide +kernel
theorem dX9_clear_15 : decode cX9_clear 15 = .ok (.getfield 21, 3) := by decide +kernel
theorem dX9_clear_18 : decode cX9_clear 18 = .ok (.invokevirtual 65, 3) := by decide +kernel
theorem dX9_clear_21 : decode cX9_clear 21 = .ok (.if_icmp .ge 26, 3) := by decide +kernel
theorem dX9_clear_24 : decode cX9_clear 24 = .ok (.aload_n 0, 1) := by decide +kernel
theorem dX9_clear_25 : decode cX9_clear 25 = .ok (.getfield 21, 3) := by decide +kernel
theorem dX9_clear_28 : decode cX9_clear 28 = .ok (.iload_n 2, 1) := by decide +kernel
theorem dX9_clear_29 : decode cX9_clear 29 = .ok (.invokevirtual 143, 3) := by decide +kernel
theorem dX9_clear_32 : decode cX9_clear 32 = .ok (.checkcast 78, 3) := by decide +kernel
theorem dX9_clear_35 : decode cX9_clear 35 = .ok (.getfield 146, 3) := by decide +kernel
theorem dX9_clear_38 : decode cX9_clear 38 = .ok (.invokevirtual 140, 3) := by decide +kernel
theorem dX9_clear_41 : decode cX9_clear 41 = .ok (.iinc 2 1, 3) := by decide +kernel
theorem dX9_clear_44 : decode cX9_clear 44 = .ok (.goto (-31), 3) := by decide +kernel
theorem dX9_clear_47 : decode cX9_clear 47 = .ok (.aload_n 0, 1) := by decide +kernel
theorem dX9_clear_48 : decode cX9_clear 48 = .ok (.getfield 34, 3) := by decide +kernel
theorem dX9_clear_51 : decode cX9_clear 51 = .ok (.invokevirtual 140, 3) := by decide +kernel
theorem dX9_clear_54 : decode cX9_clear 54 = .ok (.aload_n 0, 1) := by decide +kernel
theorem dX9_clear_55 : decode cX9_clear 55 = .ok (.getfield 47, 3) := by decide +kernel
theorem dX9_clear_58 : decode cX9_clear 58 = .ok (.invokevirtual 148, 3) := by decide +kernel
theorem dX9_clear_61 : decode cX9_clear 61 = .ok (.aload_n 0, 1) := by decide +kernel
theorem dX9_clear_62 : decode cX9_clear 62 = .ok (.getfield 30, 3) := by decide +kernel
theorem dX9_clear_65 : decode cX9_clear 65 = .ok (.invokevirtual 151, 3) := by decide +kernel
theorem dX9_clear_68 : decode cX9_clear 68 = .ok (.aload_n 0, 1) := by decide +kernel
theorem dX9_clear_69 : decode cX9_clear 69 = .ok (.getfield 40, 3) := by decide +kernel
theorem dX9_clear_72 : decode cX9_clear 72 = .ok (.invokevirtual 154, 3) := by decide +kernel
theorem dX9_clear_75 : decode cX9_clear 75 = .ok (.aload_n 0, 1) := by decide +kernel
theorem dX9_clear_76 : decode cX9_clear 76 = .ok (.getfield 51, 3) := by decide +kernel
theorem dX9_clear_79 : decode cX9_clear 79 = .ok (.invokevirtual 140, 3) := by decide +kernel
theorem dX9_clear_82 : decode cX9_clear 82 = .ok (.aload_n 0, 1) := by decide +kernel
theorem dX9_clear_83 : decode cX9_clear 83 = .ok (.iconst 0, 1) := by decide +kernel
theorem dX9_clear_84 : decode cX9_clear 84 = .ok (.putfield 155, 3) := by decide +kernel
theorem dX9_clear_87 : decode cX9_clear 87 = .ok (.aload_n 0, 1) := by decide +kernel
theorem dX9_clear_88 : decode cX9_clear 88 = .ok (.iconst 0, 1) := by decide +kernel
theorem dX9_clear_89 : decode cX9_clear 89 = .ok (.putfield 158, 3) := by decide +kernel
theorem dX9_clear_92 : decode cX9_clear 92 = .ok (.aload_n 0, 1) := by decide +kernel
theorem dX9_clear_93 : decode cX9_clear 93 = .ok (.iconst 0, 1) := by decide +kernel
theorem dX9_clear_94 : decode cX9_clear 94 = .ok (.putfield 108, 3) := by decide +kernel
theorem dX9_clear_97 : decode cX9_clear 97 = .ok (.aload_n 0, 1) := by decide +kernel
theorem dX9_clear_98 : decode cX9_clear 98 = .ok (.iconst 0, 1) := by decide +kernel
theorem dX9_clear_99 : decode cX9_clear 99 = .ok (.putfield 127, 3) := by decide +kernel
theorem dX9_clear_102 : decode cX9_clear 102 = .ok (.aload_n 0, 1) := by decide +kernel
theorem dX9_clear_103 : decode cX9_clear 103 = .ok (.iconst 0, 1) := by decide +kernel
theorem dX9_clear_104 : decode cX9_clear 104 = .ok (.putfield 69, 3) := by decide +kernel
theorem dX9_clear_107 : decode cX9_clear 107 = .ok (.return_, 1) := by decide +kernel
theorem dX9_ready_0 : decode cX9_ready 0 = .ok (.iload_n 1, 1) := by decide +kernel
theorem dX9_ready_1 : decode cX9_ready 1 = .ok (.ifCond .lt 14, 3) := by decide +kernel
theorem dX9_ready_4 : decode cX9_ready 4 = .ok (.iload_n 1, 1) := by decide +kernel
theorem dX9_ready_5 : decode cX9_ready 5 = .ok (.aload_n 0, 1) := by decide +kernel
theorem dX9_ready_6 : decode cX9_ready 6 = .ok (.getfield 34, 3) := by decide +kernel
theorem dX9_ready_9 : decode cX9_ready 9 = .ok (.invokevirtual 65, 3) := by decide +kernel
theorem dX9_ready_12 : decode cX9_ready 12 = .ok (.if_icmp .lt 5, 3) := by decide +kernel
theorem dX9_ready_15 : decode cX9_ready 15 = .ok (.iconst (-1), 1) := by decide +kernel
theorem dX9_ready_16 : decode cX9_ready 16 = .ok (.ireturn, 1) := by decide +kernel
theorem dX9_ready_17 : decode cX9_ready 17 = .ok (.aload_n 0, 1) := by decide +kernel
theorem dX9_ready_18 : decode cX9_ready 18 = .ok (.getfield 34, 3) := by decide +kernel
theorem dX9_ready_21 : decode cX9_ready 21 = .ok (.iload_n 1, 1) := by decide +kernel
theorem dX9_ready_22 : decode cX9_ready 22 = .ok (.invokevirtual 143, 3) := by decide +kernel
theorem dX9_ready_25 : decode cX9_ready 25 = .ok (.checkcast 134, 3) := by decide +kernel
theorem dX9_ready_28 : decode cX9_ready 28 = .ok (.astore_n 3, 1) := by decide +kernel
theorem dX9_ready_29 : decode cX9_ready 29 = .ok (.iload_n 2, 1) := by decide +kernel
theorem dX9_ready_30 : decode cX9_ready 30 = .ok (.lookupswitch 39 #[(0, 26), (1, 34)], 26) := by decide +kernel
theorem dX9_ready_56 : decode cX9_ready 56 = .ok (.aload_n 3, 1) := by decide +kernel
theorem dX9_ready_57 : decode cX9_ready 57 = .ok (.getfield 161, 3) := by decide +kernel
theorem dX9_ready_60 : decode cX9_ready 60 = .ok (.getfield 165, 3) := by decide +kernel
theorem dX9_ready_63 : decode cX9_ready 63 = .ok (.ireturn, 1) := by decide +kernel
theorem dX9_ready_64 : decode cX9_ready 64 = .ok (.aload_n 3, 1) := by decide +kernel
theorem dX9_ready_65 : decode cX9_ready 65 = .ok (.getfield 168, 3) := by decide +kernel
theorem dX9_ready_68 : decode cX9_ready 68 = .ok (.ireturn, 1) := by decide +kernel
theorem dX9_ready_69 : decode cX9_ready 69 = .ok (.iconst (-1), 1) := by decide +kernel
theorem dX9_ready_70 : decode cX9_ready 70 = .ok (.ireturn, 1) := by decide +kernel
theorem dX9_result_0 : decode cX9_result 0 = .ok (.iload_n 1, 1) := by decide +kernel
theorem dX9_result_1 : decode cX9_result 1 = .ok (.ifCond .lt 23, 3) := by decide +kernel
theorem dX9_result_4 : decode cX9_result 4 = .ok (.iload_n 1, 1) := by decide +kernel
theorem dX9_result_5 : decode cX9_result 5 = .ok (.aload_n 0, 1) := by decide +kernel
theorem dX9_result_6 : decode cX9_result 6 = .ok (.getfield 51, 3) := by decide +kernel
theorem dX9_result_9 : decode cX9_result 9 = .ok (.invokevirtual 65, 3) := by decide +kernel
theorem dX9_result_12 : decode cX9_result 12 = .ok (.if_icmp .ge 12, 3) := by decide +kernel
theorem dX9_result_15 : decode cX9_result 15 = .ok (.iload_n 2, 1) := by decide +kernel
theorem dX9_result_16 : decode cX9_result 16 = .ok (.ifCond .lt 8, 3) := by decide +kernel
theorem dX9_result_19 : decode cX9_result 19 = .ok (.iload_n 2, 1) := by decide +kernel
theorem dX9_result_20 : decode cX9_result 20 = .ok (.iconst 2, 1) := by decide +kernel
theorem dX9_result_21 : decode cX9_result 21 = .ok (.if_icmp .le 13, 3) := by decide +kernel
theorem dX9_result_24 : decode cX9_result 24 = .ok (.new 171, 3) := by decide +kernel
theorem dX9_result_27 : decode cX9_result 27 = .ok (.dup, 1) := by decide +kernel
theorem dX9_result_28 : decode cX9_result 28 = .ok (.ldc 173, 2) := by decide +kernel
theorem dX9_result_30 : decode cX9_result 30 = .ok (.invokespecial 175, 3) := by decide +kernel
theorem dX9_result_33 : decode cX9_result 33 = .ok (.athrow, 1) := by decide +kernel
theorem dX9_result_34 : decode cX9_result 34 = .ok (.aload_n 0, 1) := by decide +kernel
theorem dX9_result_35 : decode cX9_result 35 = .ok (.getfield 51, 3) := by decide +kernel
theorem dX9_result_38 : decode cX9_result 38 = .ok (.iload_n 1, 1) := by decide +kernel
theorem dX9_result_39 : decode cX9_result 39 = .ok (.invokevirtual 143, 3) := by decide +kernel
theorem dX9_result_42 : decode cX9_result 42 = .ok (.checkcast 176, 3) := by decide +kernel
theorem dX9_result_45 : decode cX9_result 45 = .ok (.astore_n 3, 1) := by decide +kernel
theorem dX9_result_46 : decode cX9_result 46 = .ok (.iload_n 2, 1) := by decide +kernel
theorem dX9_result_47 : decode cX9_result 47 = .ok (.lookupswitch 42 #[(0, 25), (1, 34)], 25) := by decide +kernel
theorem dX9_result_72 : decode cX9_result 72 = .ok (.aload_n 3, 1) := by decide +kernel
theorem dX9_result_73 : decode cX9_result 73 = .ok (.getfield 178, 3) := by decide +kernel
theorem dX9_result_76 : decode cX9_result 76 = .ok (.getfield 181, 3) := by decide +kernel
theorem dX9_result_79 : decode cX9_result 79 = .ok (.i2l, 1) := by decide +kernel
theorem dX9_result_80 : decode cX9_result 80 = .ok (.lreturn, 1) := by decide +kernel
theorem dX9_result_81 : decode cX9_result 81 = .ok (.aload_n 3, 1) := by decide +kernel
theorem dX9_result_82 : decode cX9_result 82 = .ok (.getfield 178, 3) := by decide +kernel
theorem dX9_result_85 : decode cX9_result 85 = .ok (.getfield 184, 3) := by decide +kernel
theorem dX9_result_88 : decode cX9_result 88 = .ok (.lreturn, 1) := by decide +kernel
theorem dX9_result_89 : decode cX9_result 89 = .ok (.aload_n 3, 1) := by decide +kernel
theorem dX9_result_90 : decode cX9_result 90 = .ok (.getfield 187, 3) := by decide +kernel
theorem dX9_result_93 : decode cX9_result 93 = .ok (.i2l, 1) := by decide +kernel
theorem dX9_result_94 : decode cX9_result 94 = .ok (.lreturn, 1) := by decide +kernel
theorem dX9_context_0 : decode cX9_context 0 = .ok (.aload_n 0, 1) := by decide +kernel
theorem dX9_context_1 : decode cX9_context 1 = .ok (.getfield 40, 3) := by decide +kernel
theorem dX9_context_4 : decode cX9_context 4 = .ok (.iload_n 1, 1) := by decide +kernel
theorem dX9_context_5 : decode cX9_context 5 = .ok (.invokevirtual 188, 3) := by decide +kernel
theorem dX9_context_8 : decode cX9_context 8 = .ok (.ifCond .eq 12, 3) := by decide +kernel
theorem dX9_context_11 : decode cX9_context 11 = .ok (.iload_n 2, 1) := by decide +kernel
theorem dX9_context_12 : decode cX9_context 12 = .ok (.ifCond .lt 8, 3) := by decide +kernel
theorem dX9_context_15 : decode cX9_context 15 = .ok (.iload_n 2, 1) := by decide +kernel
theorem dX9_context_16 : decode cX9_context 16 = .ok (.iconst 2, 1) := by decide +kernel
theorem dX9_context_17 : decode cX9_context 17 = .ok (.if_icmp .le 13, 3) := by decide +kernel
theorem dX9_context_20 : decode cX9_context 20 = .ok (.new 171, 3) := by decide +kernel
theorem dX9_context_23 : decode cX9_context 23 = .ok (.dup, 1) := by decide +kernel
theorem dX9_context_24 : decode cX9_context 24 = .ok (.ldc 191, 2) := by decide +kernel
theorem dX9_context_26 : decode cX9_context 26 = .ok (.invokespecial 175, 3) := by decide +kernel
theorem dX9_context_29 : decode cX9_context 29 = .ok (.athrow, 1) := by decide +kernel
theorem dX9_context_30 : decode cX9_context 30 = .ok (.iload_n 2, 1) := by decide +kernel
theorem dX9_context_31 : decode cX9_context 31 = .ok (.lookupswitch 45 #[(0, 25), (1, 35)], 25) := by decide +kernel
theorem dX9_context_56 : decode cX9_context 56 = .ok (.aload_n 0, 1) := by decide +kernel
theorem dX9_context_57 : decode cX9_context 57 = .ok (.getfield 40, 3) := by decide +kernel
theorem dX9_context_60 : decode cX9_context 60 = .ok (.getfield 193, 3) := by decide +kernel
theorem dX9_context_63 : decode cX9_context 63 = .ok (.iload_n 1, 1) := by decide +kernel
theorem dX9_context_64 : decode cX9_context 64 = .ok (.iaload, 1) := by decide +kernel
theorem dX9_context_65 : decode cX9_context 65 = .ok (.ireturn, 1) := by decide +kernel
theorem dX9_context_66 : decode cX9_context 66 = .ok (.aload_n 0, 1) := by decide +kernel
theorem dX9_context_67 : decode cX9_context 67 = .ok (.getfield 40, 3) := by decide +kernel
theorem dX9_context_70 : decode cX9_context 70 = .ok (.getfield 196, 3) := by decide +kernel
theorem dX9_context_73 : decode cX9_context 73 = .ok (.iload_n 1, 1) := by decide +kernel
theorem dX9_context_74 : decode cX9_context 74 = .ok (.iaload, 1) := by decide +kernel
theorem dX9_context_75 : decode cX9_context 75 = .ok (.ireturn, 1) := by decide +kernel
theorem dX9_context_76 : decode cX9_context 76 = .ok (.aload_n 0, 1) := by decide +kernel
theorem dX9_context_77 : decode cX9_context 77 = .ok (.getfield 40, 3) := by decide +kernel
theorem dX9_context_80 : decode cX9_context 80 = .ok (.getfield 199, 3) := by decide +kernel
theorem dX9_context_83 : decode cX9_context 83 = .ok (.iload_n 1, 1) := by decide +kernel
theorem dX9_context_84 : decode cX9_context 84 = .ok (.iaload, 1) := by decide +kernel
theorem dX9_context_85 : decode cX9_context 85 = .ok (.ireturn, 1) := by decide +kernel
theorem dX9_cell_0 : decode cX9_cell 0 = .ok (.aload_n 0, 1) := by decide +kernel
theorem dX9_cell_1 : decode cX9_cell 1 = .ok (.getfield 47, 3) := by decide +kernel
theorem dX9_cell_4 : decode cX9_cell 4 = .ok (.iload_n 1, 1) := by decide +kernel
theorem dX9_cell_5 : decode cX9_cell 5 = .ok (.i2l, 1) := by decide +kernel
theorem dX9_cell_6 : decode cX9_cell 6 = .ok (.iload_n 2, 1) := by decide +kernel
theorem dX9_cell_7 : decode cX9_cell 7 = .ok (.i2l, 1) := by decide +kernel
theorem dX9_cell_8 : decode cX9_cell 8 = .ok (.invokevirtual 202, 3) := by decide +kernel
theorem dX9_cell_11 : decode cX9_cell 11 = .ok (.astore 4, 2) := by decide +kernel
theorem dX9_cell_13 : decode cX9_cell 13 = .ok (.aload 4, 2) := by decide +kernel
theorem dX9_cell_15 : decode cX9_cell 15 = .ok (.ifnull 12, 3) := by decide +kernel
theorem dX9_cell_18 : decode cX9_cell 18 = .ok (.iload_n 3, 1) := by decide +kernel
theorem dX9_cell_19 : decode cX9_cell 19 = .ok (.ifCond .lt 8, 3) := by decide +kernel
theorem dX9_cell_22 : decode cX9_cell 22 = .ok (.iload_n 3, 1) := by decide +kernel
theorem dX9_cell_23 : decode cX9_cell 23 = .ok (.iconst 2, 1) := by decide +kernel
theorem dX9_cell_24 : decode cX9_cell 24 = .ok (.if_icmp .le 13, 3) := by decide +kernel
theorem dX9_cell_27 : decode cX9_cell 27 = .ok (.new 171, 3) := by decide +kernel
theorem dX9_cell_30 : decode cX9_cell 30 = .ok (.dup, 1) := by decide +kernel
theorem dX9_cell_31 : decode cX9_cell 31 = .ok (.ldc 206, 2) := by decide +kernel
theorem dX9_cell_33 : decode cX9_cell 33 = .ok (.invokespecial 175, 3) := by decide +kernel
theorem dX9_cell_36 : decode cX9_cell 36 = .ok (.athrow, 1) := by decide +kernel
theorem dX9_cell_37 : decode cX9_cell 37 = .ok (.iload_n 3, 1) := by decide +kernel
theorem dX9_cell_38 : decode cX9_cell 38 = .ok (.lookupswitch 45 #[(0, 26), (1, 36)], 26) := by decide +kernel
theorem dX9_cell_64 : decode cX9_cell 64 = .ok (.aload 4, 2) := by decide +kernel
theorem dX9_cell_66 : decode cX9_cell 66 = .ok (.getfield 208, 3) := by decide +kernel
theorem dX9_cell_69 : decode cX9_cell 69 = .ok (.getfield 181, 3) := by decide +kernel
theorem dX9_cell_72 : decode cX9_cell 72 = .ok (.i2l, 1) := by decide +kernel
theorem dX9_cell_73 : decode cX9_cell 73 = .ok (.lreturn, 1) := by decide +kernel
theorem dX9_cell_74 : decode cX9_cell 74 = .ok (.aload 4, 2) := by decide +kernel
theorem dX9_cell_76 : decode cX9_cell 76 = .ok (.getfield 208, 3) := by decide +kernel
theorem dX9_cell_79 : decode cX9_cell 79 = .ok (.getfield 184, 3) := by decide +kernel
theorem dX9_cell_82 : decode cX9_cell 82 = .ok (.lreturn, 1) := by decide +kernel
theorem dX9_cell_83 : decode cX9_cell 83 = .ok (.aload 4, 2) := by decide +kernel
theorem dX9_cell_85 : decode cX9_cell 85 = .ok (.getfield 211, 3) := by decide +kernel
theorem dX9_cell_88 : decode cX9_cell 88 = .ok (.invokevirtual 65, 3) := by decide +kernel
theorem dX9_cell_91 : decode cX9_cell 91 = .ok (.i2l, 1) := by decide +kernel
theorem dX9_cell_92 : decode cX9_cell 92 = .ok (.lreturn, 1) := by decide +kernel
theorem dX9_waiting_0 : decode cX9_waiting 0 = .ok (.aload_n 0, 1) := by decide +kernel
theorem dX9_waiting_1 : decode cX9_waiting 1 = .ok (.iload_n 1, 1) := by decide +kernel
theorem dX9_waiting_2 : decode cX9_waiting 2 = .ok (.invokevirtual 93, 3) := by decide +kernel
theorem dX9_waiting_5 : decode cX9_waiting 5 = .ok (.astore_n 3, 1) := by decide +kernel
theorem dX9_waiting_6 : decode cX9_waiting 6 = .ok (.aload_n 3, 1) := by decide +kernel
theorem dX9_waiting_7 : decode cX9_waiting 7 = .ok (.ifnull 14, 3) := by decide +kernel
theorem dX9_waiting_10 : decode cX9_waiting 10 = .ok (.aload_n 0, 1) := by decide +kernel
theorem dX9_waiting_11 : decode cX9_waiting 11 = .ok (.getfield 40, 3) := by decide +kernel
theorem dX9_waiting_14 : decode cX9_waiting 14 = .ok (.iload_n 2, 1) := by decide +kernel
theorem dX9_waiting_15 : decode cX9_waiting 15 = .ok (.invokevirtual 188, 3) := by decide +kernel
theorem dX9_waiting_18 : decode cX9_waiting 18 = .ok (.ifCond .ne 5, 3) := by decide +kernel
theorem dX9_waiting_21 : decode cX9_waiting 21 = .ok (.iconst (-1), 1) := by decide +kernel
theorem dX9_waiting_22 : decode cX9_waiting 22 = .ok (.ireturn, 1) := by decide +kernel
theorem dX9_waiting_23 : decode cX9_waiting 23 = .ok (.aload_n 3, 1) := by decide +kernel
theorem dX9_waiting_24 : decode cX9_waiting 24 = .ok (.iload_n 2, 1) := by decide +kernel
theorem dX9_waiting_25 : decode cX9_waiting 25 = .ok (.invokevirtual 214, 3) := by decide +kernel
theorem dX9_waiting_28 : decode cX9_waiting 28 = .ok (.astore 4, 2) := by decide +kernel
theorem dX9_waiting_30 : decode cX9_waiting 30 = .ok (.aload 4, 2) := by decide +kernel
theorem dX9_waiting_32 : decode cX9_waiting 32 = .ok (.ifnonnull 7, 3) := by decide +kernel
theorem dX9_waiting_35 : decode cX9_waiting 35 = .ok (.iconst 0, 1) := by decide +kernel
theorem dX9_waiting_36 : decode cX9_waiting 36 = .ok (.goto 8, 3) := by decide +kernel
theorem dX9_waiting_39 : decode cX9_waiting 39 = .ok (.aload 4, 2) := by decide +kernel
theorem dX9_waiting_41 : decode cX9_waiting 41 = .ok (.getfield 218, 3) := by decide +kernel
theorem dX9_waiting_44 : decode cX9_waiting 44 = .ok (.ireturn, 1) := by decide +kernel
theorem dX9_total_0 : decode cX9_total 0 = .ok (.iload_n 1, 1) := by decide +kernel
theorem dX9_total_1 : decode cX9_total 1 = .ok (.tableswitch 120 0 9 #[55, 63, 71, 76, 84, 92, 100, 105, 110, 115], 55) := by decide +kernel
theorem dX9_total_56 : decode cX9_total 56 = .ok (.aload_n 0, 1) := by decide +kernel
theorem dX9_total_57 : decode cX9_total 57 = .ok (.getfield 21, 3) := by decide +kernel
theorem dX9_total_60 : decode cX9_total 60 = .ok (.invokevirtual 65, 3) := by decide +kernel
theorem dX9_total_63 : decode cX9_total 63 = .ok (.ireturn, 1) := by decide +kernel
theorem dX9_total_64 : decode cX9_total 64 = .ok (.aload_n 0, 1) := by decide +kernel
theorem dX9_total_65 : decode cX9_total 65 = .ok (.getfield 34, 3) := by decide +kernel
theorem dX9_total_68 : decode cX9_total 68 = .ok (.invokevirtual 65, 3) := by decide +kernel
theorem dX9_total_71 : decode cX9_total 71 = .ok (.ireturn, 1) := by decide +kernel
theorem dX9_total_72 : decode cX9_total 72 = .ok (.aload_n 0, 1) := by decide +kernel
theorem dX9_total_73 : decode cX9_total 73 = .ok (.getfield 155, 3) := by decide +kernel
theorem dX9_total_76 : decode cX9_total 76 = .ok (.ireturn, 1) := by decide +kernel
theorem dX9_total_77 : decode cX9_total 77 = .ok (.aload_n 0, 1) := by decide +kernel
theorem dX9_total_78 : decode cX9_total 78 = .ok (.getfield 51, 3) := by decide +kernel
theorem dX9_total_81 : decode cX9_total 81 = .ok (.invokevirtual 65, 3) := by decide +kernel
theorem dX9_total_84 : decode cX9_total 84 = .ok (.ireturn, 1) := by decide +kernel
theorem dX9_total_85 : decode cX9_total 85 = .ok (.aload_n 0, 1) := by decide +kernel
theorem dX9_total_86 : decode cX9_total 86 = .ok (.getfield 40, 3) := by decide +kernel
theorem dX9_total_89 : decode cX9_total 89 = .ok (.getfield 221, 3) := by decide +kernel
theorem dX9_total_92 : decode cX9_total 92 = .ok (.ireturn, 1) := by decide +kernel
theorem dX9_total_93 : decode cX9_total 93 = .ok (.aload_n 0, 1) := by decide +kernel
theorem dX9_total_94 : decode cX9_total 94 = .ok (.getfield 47, 3) := by decide +kernel
theorem dX9_total_97 : decode cX9_total 97 = .ok (.getfield 224, 3) := by decide +kernel
theorem dX9_total_100 : decode cX9_total 100 = .ok (.ireturn, 1) := by decide +kernel
theorem dX9_total_101 : decode cX9_total 101 = .ok (.aload_n 0, 1) := by decide +kernel
theorem dX9_total_102 : decode cX9_total 102 = .ok (.getfield 158, 3) := by decide +kernel
theorem dX9_total_105 : decode cX9_total 105 = .ok (.ireturn, 1) := by decide +kernel
theorem dX9_total_106 : decode cX9_total 106 = .ok (.aload_n 0, 1) := by decide +kernel
theorem dX9_total_107 : decode cX9_total 107 = .ok (.getfield 108, 3) := by decide +kernel
theorem dX9_total_110 : decode cX9_total 110 = .ok (.ireturn, 1) := by decide +kernel
theorem dX9_total_111 : decode cX9_total 111 = .ok (.aload_n 0, 1) := by decide +kernel
theorem dX9_total_112 : decode cX9_total 112 = .ok (.getfield 127, 3) := by decide +kernel
theorem dX9_total_115 : decode cX9_total 115 = .ok (.ireturn, 1) := by decide +kernel
theorem dX9_total_116 : decode cX9_total 116 = .ok (.aload_n 0, 1) := by decide +kernel
theorem dX9_total_117 : decode cX9_total 117 = .ok (.getfield 118, 3) := by decide +kernel
theorem dX9_total_120 : decode cX9_total 120 = .ok (.ireturn, 1) := by decide +kernel
theorem dX9_total_121 : decode cX9_total 121 = .ok (.iconst (-1), 1) := by decide +kernel
theorem dX9_total_122 : decode cX9_total 122 = .ok (.ireturn, 1) := by decide +kernel
theorem dX9_nodeAt_0 : decode cX9_nodeAt 0 = .ok (.iload_n 1, 1) := by decide +kernel
theorem dX9_nodeAt_1 : decode cX9_nodeAt 1 = .ok (.ifCond .lt 14, 3) := by decide +kernel
theorem dX9_nodeAt_4 : decode cX9_nodeAt 4 = .ok (.iload_n 1, 1) := by decide +kernel
theorem dX9_nodeAt_5 : decode cX9_nodeAt 5 = .ok (.aload_n 0, 1) := by decide +kernel
theorem dX9_nodeAt_6 : decode cX9_nodeAt 6 = .ok (.getfield 21, 3) := by decide +kernel
theorem dX9_nodeAt_9 : decode cX9_nodeAt 9 = .ok (.invokevirtual 65, 3) := by decide +kernel
theorem dX9_nodeAt_12 : decode cX9_nodeAt 12 = .ok (.if_icmp .lt 7, 3) := by decide +kernel
theorem dX9_nodeAt_15 : decode cX9_nodeAt 15 = .ok (.aconst_null, 1) := by decide +kernel
theorem dX9_nodeAt_16 : decode cX9_nodeAt 16 = .ok (.goto 14, 3) := by decide +kernel
theorem dX9_nodeAt_19 : decode cX9_nodeAt 19 = .ok (.aload_n 0, 1) := by decide +kernel
theorem dX9_nodeAt_20 : decode cX9_nodeAt 20 = .ok (.getfield 21, 3) := by decide +kernel
theorem dX9_nodeAt_23 : decode cX9_nodeAt 23 = .ok (.iload_n 1, 1) := by decide +kernel
theorem dX9_nodeAt_24 : decode cX9_nodeAt 24 = .ok (.invokevirtual 143, 3) := by decide +kernel
theorem dX9_nodeAt_27 : decode cX9_nodeAt 27 = .ok (.checkcast 78, 3) := by decide +kernel
theorem dX9_nodeAt_30 : decode cX9_nodeAt 30 = .ok (.areturn, 1) := by decide +kernel
theorem dX9_come_0 : decode cX9_come 0 = .ok (.aload_n 0, 1) := by decide +kernel
theorem dX9_come_1 : decode cX9_come 1 = .ok (.getfield 108, 3) := by decide +kernel
theorem dX9_come_4 : decode cX9_come 4 = .ok (.ifCond .eq 4, 3) := by decide +kernel
theorem dX9_come_7 : decode cX9_come 7 = .ok (.return_, 1) := by decide +kernel
theorem dX9_come_8 : decode cX9_come 8 = .ok (.aload_n 1, 1) := by decide +kernel
theorem dX9_come_9 : decode cX9_come 9 = .ok (.iload 4, 2) := by decide +kernel
theorem dX9_come_11 : decode cX9_come 11 = .ok (.invokevirtual 214, 3) := by decide +kernel
theorem dX9_come_14 : decode cX9_come 14 = .ok (.astore 5, 2) := by decide +kernel
theorem dX9_come_16 : decode cX9_come 16 = .ok (.aload 5, 2) := by decide +kernel
theorem dX9_come_18 : decode cX9_come 18 = .ok (.ifnull 18, 3) := by decide +kernel
theorem dX9_come_21 : decode cX9_come 21 = .ok (.aload 5, 2) := by decide +kernel
theorem dX9_come_23 : decode cX9_come 23 = .ok (.iload_n 2, 1) := by decide +kernel
theorem dX9_come_24 : decode cX9_come 24 = .ok (.invokevirtual 227, 3) := by decide +kernel
theorem dX9_come_27 : decode cX9_come 27 = .ok (.ifCond .eq 9, 3) := by decide +kernel
theorem dX9_come_30 : decode cX9_come 30 = .ok (.aload_n 0, 1) := by decide +kernel
theorem dX9_come_31 : decode cX9_come 31 = .ok (.iconst 1, 1) := by decide +kernel
theorem dX9_come_32 : decode cX9_come 32 = .ok (.putfield 108, 3) := by decide +kernel
theorem dX9_come_35 : decode cX9_come 35 = .ok (.return_, 1) := by decide +kernel
theorem dX9_come_36 : decode cX9_come 36 = .ok (.aload_n 0, 1) := by decide +kernel
theorem dX9_come_37 : decode cX9_come 37 = .ok (.getfield 155, 3) := by decide +kernel
theorem dX9_come_40 : decode cX9_come 40 = .ok (.aload_n 0, 1) := by decide +kernel
theorem dX9_come_41 : decode cX9_come 41 = .ok (.getfield 34, 3) := by decide +kernel
theorem dX9_come_44 : decode cX9_come 44 = .ok (.invokevirtual 65, 3) := by decide +kernel
theorem dX9_come_47 : decode cX9_come 47 = .ok (.iadd, 1) := by decide +kernel
theorem dX9_come_48 : decode cX9_come 48 = .ok (.aload_n 0, 1) := by decide +kernel
theorem dX9_come_49 : decode cX9_come 49 = .ok (.getfield 158, 3) := by decide +kernel
theorem dX9_come_52 : decode cX9_come 52 = .ok (.iadd, 1) := by decide +kernel
theorem dX9_come_53 : decode cX9_come 53 = .ok (.sipush 300, 3) := by decide +kernel
theorem dX9_come_56 : decode cX9_come 56 = .ok (.if_icmp .lt 9, 3) := by decide +kernel
theorem dX9_come_59 : decode cX9_come 59 = .ok (.aload_n 0, 1) := by decide +kernel
theorem dX9_come_60 : decode cX9_come 60 = .ok (.iconst 2, 1) := by decide +kernel
theorem dX9_come_61 : decode cX9_come 61 = .ok (.putfield 108, 3) := by decide +kernel
theorem dX9_come_64 : decode cX9_come 64 = .ok (.return_, 1) := by decide +kernel
theorem dX9_come_65 : decode cX9_come 65 = .ok (.aload 5, 2) := by decide +kernel
theorem dX9_come_67 : decode cX9_come 67 = .ok (.ifnonnull 25, 3) := by decide +kernel
theorem dX9_come_70 : decode cX9_come 70 = .ok (.aload_n 0, 1) := by decide +kernel
theorem dX9_come_71 : decode cX9_come 71 = .ok (.getfield 30, 3) := by decide +kernel
theorem dX9_come_74 : decode cX9_come 74 = .ok (.aload_n 1, 1) := by decide +kernel
theorem dX9_come_75 : decode cX9_come 75 = .ok (.iload 4, 2) := by decide +kernel
theorem dX9_come_77 : decode cX9_come 77 = .ok (.invokevirtual 230, 3) := by decide +kernel
theorem dX9_come_80 : decode cX9_come 80 = .ok (.astore 5, 2) := by decide +kernel
theorem dX9_come_82 : decode cX9_come 82 = .ok (.aload_n 1, 1) := by decide +kernel
theorem dX9_come_83 : decode cX9_come 83 = .ok (.getfield 146, 3) := by decide +kernel
theorem dX9_come_86 : decode cX9_come 86 = .ok (.aload 5, 2) := by decide +kernel
theorem dX9_come_88 : decode cX9_come 88 = .ok (.invokevirtual 89, 3) := by decide +kernel
theorem dX9_come_91 : decode cX9_come 91 = .ok (.pop, 1) := by decide +kernel
theorem dX9_come_92 : decode cX9_come 92 = .ok (.aload 5, 2) := by decide +kernel
theorem dX9_come_94 : decode cX9_come 94 = .ok (.iload_n 2, 1) := by decide +kernel
theorem dX9_come_95 : decode cX9_come 95 = .ok (.aload_n 3, 1) := by decide +kernel
theorem dX9_come_96 : decode cX9_come 96 = .ok (.invokevirtual 234, 3) := by decide +kernel
theorem dX9_come_99 : decode cX9_come 99 = .ok (.aload_n 0, 1) := by decide +kernel
theorem dX9_come_100 : decode cX9_come 100 = .ok (.dup, 1) := by decide +kernel
theorem dX9_come_101 : decode cX9_come 101 = .ok (.getfield 155, 3) := by decide +kernel
theorem dX9_come_104 : decode cX9_come 104 = .ok (.iconst 1, 1) := by decide +kernel
theorem dX9_come_105 : decode cX9_come 105 = .ok (.iadd, 1) := by decide +kernel
theorem dX9_come_106 : decode cX9_come 106 = .ok (.putfield 155, 3) := by decide +kernel
theorem dX9_come_109 : decode cX9_come 109 = .ok (.aload 5, 2) := by decide +kernel
theorem dX9_come_111 : decode cX9_come 111 = .ok (.getfield 218, 3) := by decide +kernel
theorem dX9_come_114 : decode cX9_come 114 = .ok (.aload_n 1, 1) := by decide +kernel
theorem dX9_come_115 : decode cX9_come 115 = .ok (.getfield 238, 3) := by decide +kernel
theorem dX9_come_118 : decode cX9_come 118 = .ok (.if_icmp .ne 32, 3) := by decide +kernel
theorem dX9_come_121 : decode cX9_come 121 = .ok (.aload_n 0, 1) := by decide +kernel
theorem dX9_come_122 : decode cX9_come 122 = .ok (.dup, 1) := by decide +kernel
theorem dX9_come_123 : decode cX9_come 123 = .ok (.getfield 155, 3) := by decide +kernel
theorem dX9_come_126 : decode cX9_come 126 = .ok (.aload_n 1, 1) := by decide +kernel
theorem dX9_come_127 : decode cX9_come 127 = .ok (.getfield 238, 3) := by decide +kernel
theorem dX9_come_130 : decode cX9_come 130 = .ok (.isub, 1) := by decide +kernel
theorem dX9_come_131 : decode cX9_come 131 = .ok (.putfield 155, 3) := by decide +kernel
theorem dX9_come_134 : decode cX9_come 134 = .ok (.aload_n 1, 1) := by decide +kernel
theorem dX9_come_135 : decode cX9_come 135 = .ok (.iload 4, 2) := by decide +kernel
theorem dX9_come_137 : decode cX9_come 137 = .ok (.invokevirtual 241, 3) := by decide +kernel
theorem dX9_come_140 : decode cX9_come 140 = .ok (.aload_n 0, 1) := by decide +kernel
theorem dX9_come_141 : decode cX9_come 141 = .ok (.getfield 34, 3) := by decide +kernel
theorem dX9_come_144 : decode cX9_come 144 = .ok (.aload 5, 2) := by decide +kernel
theorem dX9_come_146 : decode cX9_come 146 = .ok (.invokevirtual 89, 3) := by decide +kernel
theorem dX9_come_149 : decode cX9_come 149 = .ok (.pop, 1) := by decide +kernel
theorem dX9_come_150 : decode cX9_come 150 = .ok (.return_, 1) := by decide +kernel
theorem dX9_give_0 : decode cX9_give 0 = .ok (.iconst 0, 1) := by decide +kernel
theorem dX9_give_1 : decode cX9_give 1 = .ok (.istore 4, 2) := by decide +kernel
theorem dX9_give_3 : decode cX9_give 3 = .ok (.iload 4, 2) := by decide +kernel
theorem dX9_give_5 : decode cX9_give 5 = .ok (.aload_n 1, 1) := by decide +kernel
theorem dX9_give_6 : decode cX9_give 6 = .ok (.getfield 245, 3) := by decide +kernel
theorem dX9_give_9 : decode cX9_give 9 = .ok (.invokevirtual 65, 3) := by decide +kernel
theorem dX9_give_12 : decode cX9_give 12 = .ok (.if_icmp .ge 39, 3) := by decide +kernel
theorem dX9_give_15 : decode cX9_give 15 = .ok (.aload_n 1, 1) := by decide +kernel
theorem dX9_give_16 : decode cX9_give 16 = .ok (.getfield 245, 3) := by decide +kernel
theorem dX9_give_19 : decode cX9_give 19 = .ok (.iload 4, 2) := by decide +kernel
theorem dX9_give_21 : decode cX9_give 21 = .ok (.invokevirtual 143, 3) := by decide +kernel
theorem dX9_give_24 : decode cX9_give 24 = .ok (.checkcast 248, 3) := by decide +kernel
theorem dX9_give_27 : decode cX9_give 27 = .ok (.astore 5, 2) := by decide +kernel
theorem dX9_give_29 : decode cX9_give 29 = .ok (.aload_n 0, 1) := by decide +kernel
theorem dX9_give_30 : decode cX9_give 30 = .ok (.aload 5, 2) := by decide +kernel
theorem dX9_give_32 : decode cX9_give 32 = .ok (.getfield 250, 3) := by decide +kernel
theorem dX9_give_35 : decode cX9_give 35 = .ok (.aload 5, 2) := by decide +kernel
theorem dX9_give_37 : decode cX9_give 37 = .ok (.getfield 253, 3) := by decide +kernel
theorem dX9_give_40 : decode cX9_give 40 = .ok (.aload_n 2, 1) := by decide +kernel
theorem dX9_give_41 : decode cX9_give 41 = .ok (.iload_n 3, 1) := by decide +kernel
theorem dX9_give_42 : decode cX9_give 42 = .ok (.invokevirtual 112, 3) := by decide +kernel
theorem dX9_give_45 : decode cX9_give 45 = .ok (.iinc 4 1, 3) := by decide +kernel
theorem dX9_give_48 : decode cX9_give 48 = .ok (.goto (-45), 3) := by decide +kernel
theorem dX9_give_51 : decode cX9_give 51 = .ok (.return_, 1) := by decide +kernel
theorem dX9_giveOnSide_0 : decode cX9_giveOnSide 0 = .ok (.iconst 0, 1) := by decide +kernel
theorem dX9_giveOnSide_1 : decode cX9_giveOnSide 1 = .ok (.istore 5, 2) := by decide +kernel
theorem dX9_giveOnSide_3 : decode cX9_giveOnSide 3 = .ok (.iload 5, 2) := by decide +kernel
theorem dX9_giveOnSide_5 : decode cX9_giveOnSide 5 = .ok (.aload_n 1, 1) := by decide +kernel
theorem dX9_giveOnSide_6 : decode cX9_giveOnSide 6 = .ok (.getfield 245, 3) := by decide +kernel
theorem dX9_giveOnSide_9 : decode cX9_giveOnSide 9 = .ok (.invokevirtual 65, 3) := by decide +kernel
theorem dX9_giveOnSide_12 : decode cX9_giveOnSide 12 = .ok (.if_icmp .ge 49, 3) := by decide +kernel
theorem dX9_giveOnSide_15 : decode cX9_giveOnSide 15 = .ok (.aload_n 1, 1) := by decide +kernel
theorem dX9_giveOnSide_16 : decode cX9_giveOnSide 16 = .ok (.getfield 245, 3) := by decide +kernel
theorem dX9_giveOnSide_19 : decode cX9_giveOnSide 19 = .ok (.iload 5, 2) := by decide +kernel
theorem dX9_giveOnSide_21 : decode cX9_giveOnSide 21 = .ok (.invokevirtual 143, 3) := by decide +kernel
theorem dX9_giveOnSide_24 : decode cX9_giveOnSide 24 = .ok (.checkcast 248, 3) := by decide +kernel
theorem dX9_giveOnSide_27 : decode cX9_giveOnSide 27 = .ok (.astore 6, 2) := by decide +kernel
theorem dX9_giveOnSide_29 : decode cX9_giveOnSide 29 = .ok (.aload 6, 2) := by decide +kernel
theorem dX9_giveOnSide_31 : decode cX9_giveOnSide 31 = .ok (.getfield 256, 3) := by decide +kernel
theorem dX9_giveOnSide_34 : decode cX9_giveOnSide 34 = .ok (.iload_n 2, 1) := by decide +kernel
theorem dX9_giveOnSide_35 : decode cX9_giveOnSide 35 = .ok (.if_icmp .ne 20, 3) := by decide +kernel
theorem dX9_giveOnSide_38 : decode cX9_giveOnSide 38 = .ok (.aload_n 0, 1) := by decide +kernel
theorem dX9_giveOnSide_39 : decode cX9_giveOnSide 39 = .ok (.aload 6, 2) := by decide +kernel
theorem dX9_giveOnSide_41 : decode cX9_giveOnSide 41 = .ok (.getfield 250, 3) := by decide +kernel
theorem dX9_giveOnSide_44 : decode cX9_giveOnSide 44 = .ok (.aload 6, 2) := by decide +kernel
theorem dX9_giveOnSide_46 : decode cX9_giveOnSide 46 = .ok (.getfield 253, 3) := by decide +kernel
theorem dX9_giveOnSide_49 : decode cX9_giveOnSide 49 = .ok (.aload_n 3, 1) := by decide +kernel
theorem dX9_giveOnSide_50 : decode cX9_giveOnSide 50 = .ok (.iload 4, 2) := by decide +kernel
theorem dX9_giveOnSide_52 : decode cX9_giveOnSide 52 = .ok (.invokevirtual 112, 3) := by decide +kernel
theorem dX9_giveOnSide_55 : decode cX9_giveOnSide 55 = .ok (.iinc 5 1, 3) := by decide +kernel
theorem dX9_giveOnSide_58 : decode cX9_giveOnSide 58 = .ok (.goto (-55), 3) := by decide +kernel
theorem dX9_giveOnSide_61 : decode cX9_giveOnSide 61 = .ok (.return_, 1) := by decide +kernel
theorem dX9_go_0 : decode cX9_go 0 = .ok (.aload_n 1, 1) := by decide +kernel
theorem dX9_go_1 : decode cX9_go 1 = .ok (.getfield 161, 3) := by decide +kernel
theorem dX9_go_4 : decode cX9_go 4 = .ok (.astore_n 2, 1) := by decide +kernel
theorem dX9_go_5 : decode cX9_go 5 = .ok (.aload_n 1, 1) := by decide +kernel
theorem dX9_go_6 : decode cX9_go 6 = .ok (.getfield 168, 3) := by decide +kernel
theorem dX9_go_9 : decode cX9_go 9 = .ok (.istore_n 3, 1) := by decide +kernel
theorem dX9_go_10 : decode cX9_go 10 = .ok (.aload_n 1, 1) := by decide +kernel
theorem dX9_go_11 : decode cX9_go 11 = .ok (.getfield 259, 3) := by decide +kernel
theorem dX9_go_14 : decode cX9_go 14 = .ok (.iconst 0, 1) := by decide +kernel
theorem dX9_go_15 : decode cX9_go 15 = .ok (.aaload, 1) := by decide +kernel
theorem dX9_go_16 : decode cX9_go 16 = .ok (.astore 4, 2) := by decide +kernel
theorem dX9_go_18 : decode cX9_go 18 = .ok (.aload_n 1, 1) := by decide +kernel
theorem dX9_go_19 : decode cX9_go 19 = .ok (.getfield 259, 3) := by decide +kernel
theorem dX9_go_22 : decode cX9_go 22 = .ok (.iconst 1, 1) := by decide +kernel
theorem dX9_go_23 : decode cX9_go 23 = .ok (.aaload, 1) := by decide +kernel
theorem dX9_go_24 : decode cX9_go 24 = .ok (.astore 5, 2) := by decide +kernel
theorem dX9_go_26 : decode cX9_go 26 = .ok (.aload_n 1, 1) := by decide +kernel
theorem dX9_go_27 : decode cX9_go 27 = .ok (.getfield 259, 3) := by decide +kernel
theorem dX9_go_30 : decode cX9_go 30 = .ok (.iconst 2, 1) := by decide +kernel
theorem dX9_go_31 : decode cX9_go 31 = .ok (.aaload, 1) := by decide +kernel
theorem dX9_go_32 : decode cX9_go 32 = .ok (.astore 6, 2) := by decide +kernel
theorem dX9_go_34 : decode cX9_go 34 = .ok (.aload_n 0, 1) := by decide +kernel
theorem dX9_go_35 : decode cX9_go 35 = .ok (.getfield 30, 3) := by decide +kernel
theorem dX9_go_38 : decode cX9_go 38 = .ok (.aload_n 1, 1) := by decide +kernel
theorem dX9_go_39 : decode cX9_go 39 = .ok (.invokevirtual 263, 3) := by decide +kernel
theorem dX9_go_42 : decode cX9_go 42 = .ok (.aload 4, 2) := by decide +kernel
theorem dX9_go_44 : decode cX9_go 44 = .ok (.aload_n 2, 1) := by decide +kernel
theorem dX9_go_45 : decode cX9_go 45 = .ok (.getfield 266, 3) := by decide +kernel
theorem dX9_go_48 : decode cX9_go 48 = .ok (.invokestatic 269, 3) := by decide +kernel
theorem dX9_go_51 : decode cX9_go 51 = .ok (.aload 5, 2) := by decide +kernel
theorem dX9_go_53 : decode cX9_go 53 = .ok (.aload_n 2, 1) := by decide +kernel
theorem dX9_go_54 : decode cX9_go 54 = .ok (.getfield 273, 3) := by decide +kernel
theorem dX9_go_57 : decode cX9_go 57 = .ok (.invokestatic 269, 3) := by decide +kernel
theorem dX9_go_60 : decode cX9_go 60 = .ok (.invokestatic 276, 3) := by decide +kernel
theorem dX9_go_63 : decode cX9_go 63 = .ok (.istore 7, 2) := by decide +kernel
theorem dX9_go_65 : decode cX9_go 65 = .ok (.iload 7, 2) := by decide +kernel
theorem dX9_go_67 : decode cX9_go 67 = .ok (.iconst 5, 1) := by decide +kernel
theorem dX9_go_68 : decode cX9_go 68 = .ok (.if_icmp .eq 21, 3) := by decide +kernel
theorem dX9_go_71 : decode cX9_go 71 = .ok (.aload_n 0, 1) := by decide +kernel
theorem dX9_go_72 : decode cX9_go 72 = .ok (.aload_n 2, 1) := by decide +kernel
theorem dX9_go_73 : decode cX9_go 73 = .ok (.new 7, 3) := by decide +kernel
theorem dX9_go_76 : decode cX9_go 76 = .ok (.dup, 1) := by decide +kernel
theorem dX9_go_77 : decode cX9_go 77 = .ok (.iconst 1, 1) := by decide +kernel
theorem dX9_go_78 : decode cX9_go 78 = .ok (.iload 7, 2) := by decide +kernel
theorem dX9_go_80 : decode cX9_go 80 = .ok (.i2l, 1) := by decide +kernel
theorem dX9_go_81 : decode cX9_go 81 = .ok (.invokespecial 11, 3) := by decide +kernel
theorem dX9_go_84 : decode cX9_go 84 = .ok (.iload_n 3, 1) := by decide +kernel
theorem dX9_go_85 : decode cX9_go 85 = .ok (.invokevirtual 282, 3) := by decide +kernel
theorem dX9_go_88 : decode cX9_go 88 = .ok (.return_, 1) := by decide +kernel
theorem dX9_go_89 : decode cX9_go 89 = .ok (.aload_n 2, 1) := by decide +kernel
theorem dX9_go_90 : decode cX9_go 90 = .ok (.getfield 286, 3) := by decide +kernel
theorem dX9_go_93 : decode cX9_go 93 = .ok (.tableswitch 193 7 17 #[59, 72, 72, 72, 72, 83, 94, 104, 118, 144, 172], 59) := by decide +kernel
theorem dX9_go_152 : decode cX9_go 152 = .ok (.aload_n 0, 1) := by decide +kernel
theorem dX9_go_153 : decode cX9_go 153 = .ok (.aload_n 2, 1) := by decide +kernel
theorem dX9_go_154 : decode cX9_go 154 = .ok (.iload_n 3, 1) := by decide +kernel
theorem dX9_go_155 : decode cX9_go 155 = .ok (.aload 4, 2) := by decide +kernel
theorem dX9_go_157 : decode cX9_go 157 = .ok (.aload 5, 2) := by decide +kernel
theorem dX9_go_159 : decode cX9_go 159 = .ok (.invokevirtual 289, 3) := by decide +kernel
theorem dX9_go_162 : decode cX9_go 162 = .ok (.goto 138, 3) := by decide +kernel
theorem dX9_go_165 : decode cX9_go 165 = .ok (.aload_n 0, 1) := by decide +kernel
theorem dX9_go_166 : decode cX9_go 166 = .ok (.aload_n 2, 1) := by decide +kernel
theorem dX9_go_167 : decode cX9_go 167 = .ok (.iload_n 3, 1) := by decide +kernel
theorem dX9_go_168 : decode cX9_go 168 = .ok (.aload 4, 2) := by decide +kernel
theorem dX9_go_170 : decode cX9_go 170 = .ok (.invokevirtual 293, 3) := by decide +kernel
theorem dX9_go_173 : decode cX9_go 173 = .ok (.goto 127, 3) := by decide +kernel
theorem dX9_go_176 : decode cX9_go 176 = .ok (.aload_n 0, 1) := by decide +kernel
theorem dX9_go_177 : decode cX9_go 177 = .ok (.aload_n 2, 1) := by decide +kernel
theorem dX9_go_178 : decode cX9_go 178 = .ok (.iload_n 3, 1) := by decide +kernel
theorem dX9_go_179 : decode cX9_go 179 = .ok (.aload 4, 2) := by decide +kernel
theorem dX9_go_181 : decode cX9_go 181 = .ok (.invokevirtual 297, 3) := by decide +kernel
theorem dX9_go_184 : decode cX9_go 184 = .ok (.goto 116, 3) := by decide +kernel
theorem dX9_go_187 : decode cX9_go 187 = .ok (.aload_n 0, 1) := by decide +kernel
theorem dX9_go_188 : decode cX9_go 188 = .ok (.iload_n 3, 1) := by decide +kernel
theorem dX9_go_189 : decode cX9_go 189 = .ok (.aload 4, 2) := by decide +kernel
theorem dX9_go_191 : decode cX9_go 191 = .ok (.invokevirtual 300, 3) := by decide +kernel
theorem dX9_go_194 : decode cX9_go 194 = .ok (.goto 106, 3) := by decide +kernel
theorem dX9_go_197 : decode cX9_go 197 = .ok (.aload_n 0, 1) := by decide +kernel
theorem dX9_go_198 : decode cX9_go 198 = .ok (.aload_n 2, 1) := by decide +kernel
theorem dX9_go_199 : decode cX9_go 199 = .ok (.iload_n 3, 1) := by decide +kernel
theorem dX9_go_200 : decode cX9_go 200 = .ok (.aload 4, 2) := by decide +kernel
theorem dX9_go_202 : decode cX9_go 202 = .ok (.getfield 184, 3) := by decide +kernel
theorem dX9_go_205 : decode cX9_go 205 = .ok (.invokevirtual 303, 3) := by decide +kernel
theorem dX9_go_208 : decode cX9_go 208 = .ok (.goto 92, 3) := by decide +kernel
theorem dX9_go_211 : decode cX9_go 211 = .ok (.aload_n 0, 1) := by decide +kernel
theorem dX9_go_212 : decode cX9_go 212 = .ok (.aload_n 2, 1) := by decide +kernel
theorem dX9_go_213 : decode cX9_go 213 = .ok (.iload_n 3, 1) := by decide +kernel
theorem dX9_go_214 : decode cX9_go 214 = .ok (.aload_n 0, 1) := by decide +kernel
theorem dX9_go_215 : decode cX9_go 215 = .ok (.getfield 47, 3) := by decide +kernel
theorem dX9_go_218 : decode cX9_go 218 = .ok (.aload 4, 2) := by decide +kernel
theorem dX9_go_220 : decode cX9_go 220 = .ok (.getfield 184, 3) := by decide +kernel
theorem dX9_go_223 : decode cX9_go 223 = .ok (.aload 5, 2) := by decide +kernel
theorem dX9_go_225 : decode cX9_go 225 = .ok (.getfield 184, 3) := by decide +kernel
theorem dX9_go_228 : decode cX9_go 228 = .ok (.invokevirtual 202, 3) := by decide +kernel
theorem dX9_go_231 : decode cX9_go 231 = .ok (.invokevirtual 307, 3) := by decide +kernel
theorem dX9_go_234 : decode cX9_go 234 = .ok (.goto 66, 3) := by decide +kernel
theorem dX9_go_237 : decode cX9_go 237 = .ok (.aload_n 0, 1) := by decide +kernel
theorem dX9_go_238 : decode cX9_go 238 = .ok (.aload_n 2, 1) := by decide +kernel
theorem dX9_go_239 : decode cX9_go 239 = .ok (.iload_n 3, 1) := by decide +kernel
theorem dX9_go_240 : decode cX9_go 240 = .ok (.aload_n 0, 1) := by decide +kernel
theorem dX9_go_241 : decode cX9_go 241 = .ok (.getfield 47, 3) := by decide +kernel
theorem dX9_go_244 : decode cX9_go 244 = .ok (.aload 4, 2) := by decide +kernel
theorem dX9_go_246 : decode cX9_go 246 = .ok (.getfield 184, 3) := by decide +kernel
theorem dX9_go_249 : decode cX9_go 249 = .ok (.aload 5, 2) := by decide +kernel
theorem dX9_go_251 : decode cX9_go 251 = .ok (.getfield 184, 3) := by decide +kernel
theorem dX9_go_254 : decode cX9_go 254 = .ok (.invokevirtual 202, 3) := by decide +kernel
theorem dX9_go_257 : decode cX9_go 257 = .ok (.aload 6, 2) := by decide +kernel
theorem dX9_go_259 : decode cX9_go 259 = .ok (.invokevirtual 311, 3) := by decide +kernel
theorem dX9_go_262 : decode cX9_go 262 = .ok (.goto 38, 3) := by decide +kernel
theorem dX9_go_265 : decode cX9_go 265 = .ok (.aload_n 0, 1) := by decide +kernel
theorem dX9_go_266 : decode cX9_go 266 = .ok (.getfield 51, 3) := by decide +kernel
theorem dX9_go_269 : decode cX9_go 269 = .ok (.new 176, 3) := by decide +kernel
theorem dX9_go_272 : decode cX9_go 272 = .ok (.dup, 1) := by decide +kernel
theorem dX9_go_273 : decode cX9_go 273 = .ok (.aload 4, 2) := by decide +kernel
theorem dX9_go_275 : decode cX9_go 275 = .ok (.iload_n 3, 1) := by decide +kernel
theorem dX9_go_276 : decode cX9_go 276 = .ok (.invokespecial 315, 3) := by decide +kernel
theorem dX9_go_279 : decode cX9_go 279 = .ok (.invokevirtual 89, 3) := by decide +kernel
theorem dX9_go_282 : decode cX9_go 282 = .ok (.pop, 1) := by decide +kernel
theorem dX9_go_283 : decode cX9_go 283 = .ok (.goto 17, 3) := by decide +kernel
theorem dX9_go_286 : decode cX9_go 286 = .ok (.aload_n 0, 1) := by decide +kernel
theorem dX9_go_287 : decode cX9_go 287 = .ok (.aload_n 2, 1) := by decide +kernel
theorem dX9_go_288 : decode cX9_go 288 = .ok (.aload_n 2, 1) := by decide +kernel
theorem dX9_go_289 : decode cX9_go 289 = .ok (.aload 4, 2) := by decide +kernel
theorem dX9_go_291 : decode cX9_go 291 = .ok (.aload 5, 2) := by decide +kernel
theorem dX9_go_293 : decode cX9_go 293 = .ok (.invokestatic 318, 3) := by decide +kernel
theorem dX9_go_296 : decode cX9_go 296 = .ok (.iload_n 3, 1) := by decide +kernel
theorem dX9_go_297 : decode cX9_go 297 = .ok (.invokevirtual 282, 3) := by decide +kernel
theorem dX9_go_300 : decode cX9_go 300 = .ok (.return_, 1) := by decide +kernel
theorem dX9_errorOf_0 : decode cX9_errorOf 0 = .ok (.iload_n 1, 1) := by decide +kernel
theorem dX9_errorOf_1 : decode cX9_errorOf 1 = .ok (.ifCond .ne 5, 3) := by decide +kernel
theorem dX9_errorOf_4 : decode cX9_errorOf 4 = .ok (.iconst 5, 1) := by decide +kernel
theorem dX9_errorOf_5 : decode cX9_errorOf 5 = .ok (.ireturn, 1) := by decide +kernel
theorem dX9_errorOf_6 : decode cX9_errorOf 6 = .ok (.aload_n 0, 1) := by decide +kernel
theorem dX9_errorOf_7 : decode cX9_errorOf 7 = .ok (.getfield 181, 3) := by decide +kernel
theorem dX9_errorOf_10 : decode cX9_errorOf 10 = .ok (.iconst 1, 1) := by decide +kernel
theorem dX9_errorOf_11 : decode cX9_errorOf 11 = .ok (.if_icmp .ne 9, 3) := by decide +kernel
theorem dX9_errorOf_14 : decode cX9_errorOf 14 = .ok (.aload_n 0, 1) := by decide +kernel
theorem dX9_errorOf_15 : decode cX9_errorOf 15 = .ok (.getfield 184, 3) := by decide +kernel
theorem dX9_errorOf_18 : decode cX9_errorOf 18 = .ok (.l2i, 1) := by decide +kernel
theorem dX9_errorOf_19 : decode cX9_errorOf 19 = .ok (.ireturn, 1) := by decide +kernel
theorem dX9_errorOf_20 : decode cX9_errorOf 20 = .ok (.iload_n 1, 1) := by decide +kernel
theorem dX9_errorOf_21 : decode cX9_errorOf 21 = .ok (.iconst 2, 1) := by decide +kernel
theorem dX9_errorOf_22 : decode cX9_errorOf 22 = .ok (.if_icmp .ne 12, 3) := by decide +kernel
theorem dX9_errorOf_25 : decode cX9_errorOf 25 = .ok (.aload_n 0, 1) := by decide +kernel
theorem dX9_errorOf_26 : decode cX9_errorOf 26 = .ok (.getfield 181, 3) := by decide +kernel
theorem dX9_errorOf_29 : decode cX9_errorOf 29 = .ok (.ifCond .eq 5, 3) := by decide +kernel
theorem dX9_errorOf_32 : decode cX9_errorOf 32 = .ok (.iconst 4, 1) := by decide +kernel
theorem dX9_errorOf_33 : decode cX9_errorOf 33 = .ok (.ireturn, 1) := by decide +kernel
theorem dX9_errorOf_34 : decode cX9_errorOf 34 = .ok (.iload_n 1, 1) := by decide +kernel
theorem dX9_errorOf_35 : decode cX9_errorOf 35 = .ok (.iconst 3, 1) := by decide +kernel
theorem dX9_errorOf_36 : decode cX9_errorOf 36 = .ok (.if_icmp .ne 13, 3) := by decide +kernel
theorem dX9_errorOf_39 : decode cX9_errorOf 39 = .ok (.aload_n 0, 1) := by decide +kernel
theorem dX9_errorOf_40 : decode cX9_errorOf 40 = .ok (.getfield 181, 3) := by decide +kernel
theorem dX9_errorOf_43 : decode cX9_errorOf 43 = .ok (.iconst 2, 1) := by decide +kernel
theorem dX9_errorOf_44 : decode cX9_errorOf 44 = .ok (.if_icmp .eq 5, 3) := by decide +kernel
theorem dX9_errorOf_47 : decode cX9_errorOf 47 = .ok (.iconst 4, 1) := by decide +kernel
theorem dX9_errorOf_48 : decode cX9_errorOf 48 = .ok (.ireturn, 1) := by decide +kernel
theorem dX9_errorOf_49 : decode cX9_errorOf 49 = .ok (.iconst 5, 1) := by decide +kernel
theorem dX9_errorOf_50 : decode cX9_errorOf 50 = .ok (.ireturn, 1) := by decide +kernel
theorem dX9_reckoned_0 : decode cX9_reckoned 0 = .ok (.aload_n 0, 1) := by decide +kernel
theorem dX9_reckoned_1 : decode cX9_reckoned 1 = .ok (.getfield 286, 3) := by decide +kernel
theorem dX9_reckoned_4 : decode cX9_reckoned 4 = .ok (.tableswitch 150 0 6 #[150, 44, 62, 80, 98, 110, 136], 44) := by decide +kernel
theorem dX9_reckoned_48 : decode cX9_reckoned 48 = .ok (.new 7, 3) := by decide +kernel
theorem dX9_reckoned_51 : decode cX9_reckoned 51 = .ok (.dup, 1) := by decide +kernel
theorem dX9_reckoned_52 : decode cX9_reckoned 52 = .ok (.iconst 0, 1) := by decide +kernel
theorem dX9_reckoned_53 : decode cX9_reckoned 53 = .ok (.aload_n 1, 1) := by decide +kernel
theorem dX9_reckoned_54 : decode cX9_reckoned 54 = .ok (.getfield 184, 3) := by decide +kernel
theorem dX9_reckoned_57 : decode cX9_reckoned 57 = .ok (.aload_n 2, 1) := by decide +kernel
theorem dX9_reckoned_58 : decode cX9_reckoned 58 = .ok (.getfield 184, 3) := by decide +kernel
theorem dX9_reckoned_61 : decode cX9_reckoned 61 = .ok (.ladd, 1) := by decide +kernel
theorem dX9_reckoned_62 : decode cX9_reckoned 62 = .ok (.invokespecial 11, 3) := by decide +kernel
theorem dX9_reckoned_65 : decode cX9_reckoned 65 = .ok (.areturn, 1) := by decide +kernel
theorem dX9_reckoned_66 : decode cX9_reckoned 66 = .ok (.new 7, 3) := by decide +kernel
theorem dX9_reckoned_69 : decode cX9_reckoned 69 = .ok (.dup, 1) := by decide +kernel
theorem dX9_reckoned_70 : decode cX9_reckoned 70 = .ok (.iconst 0, 1) := by decide +kernel
theorem dX9_reckoned_71 : decode cX9_reckoned 71 = .ok (.aload_n 1, 1) := by decide +kernel
theorem dX9_reckoned_72 : decode cX9_reckoned 72 = .ok (.getfield 184, 3) := by decide +kernel
theorem dX9_reckoned_75 : decode cX9_reckoned 75 = .ok (.aload_n 2, 1) := by decide +kernel
theorem dX9_reckoned_76 : decode cX9_reckoned 76 = .ok (.getfield 184, 3) := by decide +kernel
theorem dX9_reckoned_79 : decode cX9_reckoned 79 = .ok (.lsub, 1) := by decide +kernel
theorem dX9_reckoned_80 : decode cX9_reckoned 80 = .ok (.invokespecial 11, 3) := by decide +kernel
theorem dX9_reckoned_83 : decode cX9_reckoned 83 = .ok (.areturn, 1) := by decide +kernel
theorem dX9_reckoned_84 : decode cX9_reckoned 84 = .ok (.new 7, 3) := by decide +kernel
theorem dX9_reckoned_87 : decode cX9_reckoned 87 = .ok (.dup, 1) := by decide +kernel
theorem dX9_reckoned_88 : decode cX9_reckoned 88 = .ok (.iconst 0, 1) := by decide +kernel
theorem dX9_reckoned_89 : decode cX9_reckoned 89 = .ok (.aload_n 1, 1) := by decide +kernel
theorem dX9_reckoned_90 : decode cX9_reckoned 90 = .ok (.getfield 184, 3) := by decide +kernel
theorem dX9_reckoned_93 : decode cX9_reckoned 93 = .ok (.aload_n 2, 1) := by decide +kernel
theorem dX9_reckoned_94 : decode cX9_reckoned 94 = .ok (.getfield 184, 3) := by decide +kernel
theorem dX9_reckoned_97 : decode cX9_reckoned 97 = .ok (.lmul, 1) := by decide +kernel
theorem dX9_reckoned_98 : decode cX9_reckoned 98 = .ok (.invokespecial 11, 3) := by decide +kernel
theorem dX9_reckoned_101 : decode cX9_reckoned 101 = .ok (.areturn, 1) := by decide +kernel
theorem dX9_reckoned_102 : decode cX9_reckoned 102 = .ok (.aload_n 1, 1) := by decide +kernel
theorem dX9_reckoned_103 : decode cX9_reckoned 103 = .ok (.getfield 184, 3) := by decide +kernel
theorem dX9_reckoned_106 : decode cX9_reckoned 106 = .ok (.aload_n 2, 1) := by decide +kernel
theorem dX9_reckoned_107 : decode cX9_reckoned 107 = .ok (.getfield 184, 3) := by decide +kernel
theorem dX9_reckoned_110 : decode cX9_reckoned 110 = .ok (.invokestatic 322, 3) := by decide +kernel
theorem dX9_reckoned_113 : decode cX9_reckoned 113 = .ok (.areturn, 1) := by decide +kernel
theorem dX9_reckoned_114 : decode cX9_reckoned 114 = .ok (.new 7, 3) := by decide +kernel
theorem dX9_reckoned_117 : decode cX9_reckoned 117 = .ok (.dup, 1) := by decide +kernel
theorem dX9_reckoned_118 : decode cX9_reckoned 118 = .ok (.iconst 0, 1) := by decide +kernel
theorem dX9_reckoned_119 : decode cX9_reckoned 119 = .ok (.aload_n 1, 1) := by decide +kernel
theorem dX9_reckoned_120 : decode cX9_reckoned 120 = .ok (.getfield 184, 3) := by decide +kernel
theorem dX9_reckoned_123 : decode cX9_reckoned 123 = .ok (.aload_n 2, 1) := by decide +kernel
theorem dX9_reckoned_124 : decode cX9_reckoned 124 = .ok (.getfield 184, 3) := by decide +kernel
theorem dX9_reckoned_127 : decode cX9_reckoned 127 = .ok (.lcmp, 1) := by decide +kernel
theorem dX9_reckoned_128 : decode cX9_reckoned 128 = .ok (.ifCond .ge 7, 3) := by decide +kernel
theorem dX9_reckoned_131 : decode cX9_reckoned 131 = .ok (.lconst 1, 1) := by decide +kernel
theorem dX9_reckoned_132 : decode cX9_reckoned 132 = .ok (.goto 4, 3) := by decide +kernel
theorem dX9_reckoned_135 : decode cX9_reckoned 135 = .ok (.lconst 0, 1) := by decide +kernel
theorem dX9_reckoned_136 : decode cX9_reckoned 136 = .ok (.invokespecial 11, 3) := by decide +kernel
theorem dX9_reckoned_139 : decode cX9_reckoned 139 = .ok (.areturn, 1) := by decide +kernel
theorem dX9_reckoned_140 : decode cX9_reckoned 140 = .ok (.new 7, 3) := by decide +kernel
theorem dX9_reckoned_143 : decode cX9_reckoned 143 = .ok (.dup, 1) := by decide +kernel
theorem dX9_reckoned_144 : decode cX9_reckoned 144 = .ok (.iconst 0, 1) := by decide +kernel
theorem dX9_reckoned_145 : decode cX9_reckoned 145 = .ok (.aload_n 0, 1) := by decide +kernel
theorem dX9_reckoned_146 : decode cX9_reckoned 146 = .ok (.getfield 326, 3) := by decide +kernel
theorem dX9_reckoned_149 : decode cX9_reckoned 149 = .ok (.i2l, 1) := by decide +kernel
theorem dX9_reckoned_150 : decode cX9_reckoned 150 = .ok (.invokespecial 11, 3) := by decide +kernel
theorem dX9_reckoned_153 : decode cX9_reckoned 153 = .ok (.areturn, 1) := by decide +kernel
theorem dX9_reckoned_154 : decode cX9_reckoned 154 = .ok (.aload_n 1, 1) := by decide +kernel
theorem dX9_reckoned_155 : decode cX9_reckoned 155 = .ok (.areturn, 1) := by decide +kernel
theorem dX9_quotient_0 : decode cX9_quotient 0 = .ok (.lload_n 2, 1) := by decide +kernel
theorem dX9_quotient_1 : decode cX9_quotient 1 = .ok (.lconst 0, 1) := by decide +kernel
theorem dX9_quotient_2 : decode cX9_quotient 2 = .ok (.lcmp, 1) := by decide +kernel
theorem dX9_quotient_3 : decode cX9_quotient 3 = .ok (.ifCond .ne 13, 3) := by decide +kernel
theorem dX9_quotient_6 : decode cX9_quotient 6 = .ok (.new 7, 3) := by decide +kernel
theorem dX9_quotient_9 : decode cX9_quotient 9 = .ok (.dup, 1) := by decide +kernel
theorem dX9_quotient_10 : decode cX9_quotient 10 = .ok (.iconst 1, 1) := by decide +kernel
theorem dX9_quotient_11 : decode cX9_quotient 11 = .ok (.lconst 1, 1) := by decide +kernel
theorem dX9_quotient_12 : decode cX9_quotient 12 = .ok (.invokespecial 11, 3) := by decide +kernel
theorem dX9_quotient_15 : decode cX9_quotient 15 = .ok (.areturn, 1) := by decide +kernel
theorem dX9_quotient_16 : decode cX9_quotient 16 = .ok (.new 7, 3) := by decide +kernel
theorem dX9_quotient_19 : decode cX9_quotient 19 = .ok (.dup, 1) := by decide +kernel
theorem dX9_quotient_20 : decode cX9_quotient 20 = .ok (.iconst 0, 1) := by decide +kernel
theorem dX9_quotient_21 : decode cX9_quotient 21 = .ok (.lload_n 0, 1) := by decide +kernel
theorem dX9_quotient_22 : decode cX9_quotient 22 = .ok (.lload_n 2, 1) := by decide +kernel
theorem dX9_quotient_23 : decode cX9_quotient 23 = .ok (.ldiv, 1) := by decide +kernel
theorem dX9_quotient_24 : decode cX9_quotient 24 = .ok (.invokespecial 11, 3) := by decide +kernel
theorem dX9_quotient_27 : decode cX9_quotient 27 = .ok (.areturn, 1) := by decide +kernel
theorem dX9_choose_0 : decode cX9_choose 0 = .ok (.aload 4, 2) := by decide +kernel
theorem dX9_choose_2 : decode cX9_choose 2 = .ok (.getfield 181, 3) := by decide +kernel
theorem dX9_choose_5 : decode cX9_choose 5 = .ok (.ifCond .ne 26, 3) := by decide +kernel
theorem dX9_choose_8 : decode cX9_choose 8 = .ok (.aload_n 0, 1) := by decide +kernel
theorem dX9_choose_9 : decode cX9_choose 9 = .ok (.aload_n 1, 1) := by decide +kernel
theorem dX9_choose_10 : decode cX9_choose 10 = .ok (.aload 4, 2) := by decide +kernel
theorem dX9_choose_12 : decode cX9_choose 12 = .ok (.getfield 184, 3) := by decide +kernel
theorem dX9_choose_15 : decode cX9_choose 15 = .ok (.lconst 0, 1) := by decide +kernel
theorem dX9_choose_16 : decode cX9_choose 16 = .ok (.lcmp, 1) := by decide +kernel
theorem dX9_choose_17 : decode cX9_choose 17 = .ok (.ifCond .ne 7, 3) := by decide +kernel
theorem dX9_choose_20 : decode cX9_choose 20 = .ok (.iconst 0, 1) := by decide +kernel
theorem dX9_choose_21 : decode cX9_choose 21 = .ok (.goto 4, 3) := by decide +kernel
theorem dX9_choose_24 : decode cX9_choose 24 = .ok (.iconst 1, 1) := by decide +kernel
theorem dX9_choose_25 : decode cX9_choose 25 = .ok (.aload_n 3, 1) := by decide +kernel
theorem dX9_choose_26 : decode cX9_choose 26 = .ok (.iload_n 2, 1) := by decide +kernel
theorem dX9_choose_27 : decode cX9_choose 27 = .ok (.invokevirtual 329, 3) := by decide +kernel
theorem dX9_choose_30 : decode cX9_choose 30 = .ok (.return_, 1) := by decide +kernel
theorem dX9_choose_31 : decode cX9_choose 31 = .ok (.aload 4, 2) := by decide +kernel
theorem dX9_choose_33 : decode cX9_choose 33 = .ok (.getfield 181, 3) := by decide +kernel
theorem dX9_choose_36 : decode cX9_choose 36 = .ok (.iconst 1, 1) := by decide +kernel
theorem dX9_choose_37 : decode cX9_choose 37 = .ok (.if_icmp .ne 8, 3) := by decide +kernel
theorem dX9_choose_40 : decode cX9_choose 40 = .ok (.aload 4, 2) := by decide +kernel
theorem dX9_choose_42 : decode cX9_choose 42 = .ok (.goto 14, 3) := by decide +kernel
theorem dX9_choose_45 : decode cX9_choose 45 = .ok (.new 7, 3) := by decide +kernel
theorem dX9_choose_48 : decode cX9_choose 48 = .ok (.dup, 1) := by decide +kernel
theorem dX9_choose_49 : decode cX9_choose 49 = .ok (.iconst 1, 1) := by decide +kernel
theorem dX9_choose_50 : decode cX9_choose 50 = .ok (.ldc2_w 332, 3) := by decide +kernel
theorem dX9_choose_53 : decode cX9_choose 53 = .ok (.invokespecial 11, 3) := by decide +kernel
theorem dX9_choose_56 : decode cX9_choose 56 = .ok (.astore 5, 2) := by decide +kernel
theorem dX9_choose_58 : decode cX9_choose 58 = .ok (.aload_n 0, 1) := by decide +kernel
theorem dX9_choose_59 : decode cX9_choose 59 = .ok (.aload_n 1, 1) := by decide +kernel
theorem dX9_choose_60 : decode cX9_choose 60 = .ok (.iconst 0, 1) := by decide +kernel
theorem dX9_choose_61 : decode cX9_choose 61 = .ok (.aload 5, 2) := by decide +kernel
