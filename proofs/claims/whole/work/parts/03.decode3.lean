theorem dX10_make_52 : decode cX10_make 52 = .ok (.iload_n 3, 1) := by decide +kernel
theorem dX10_make_53 : decode cX10_make 53 = .ok (.ifCond .le 11, 3) := by decide +kernel
theorem dX10_make_56 : decode cX10_make 56 = .ok (.aload_n 0, 1) := by decide +kernel
theorem dX10_make_57 : decode cX10_make 57 = .ok (.iload_n 1, 1) := by decide +kernel
theorem dX10_make_58 : decode cX10_make 58 = .ok (.iload_n 2, 1) := by decide +kernel
theorem dX10_make_59 : decode cX10_make 59 = .ok (.iload_n 3, 1) := by decide +kernel
theorem dX10_make_60 : decode cX10_make 60 = .ok (.invokevirtual 181, 3) := by decide +kernel
theorem dX10_make_63 : decode cX10_make 63 = .ok (.return_, 1) := by decide +kernel
theorem dX10_make_64 : decode cX10_make 64 = .ok (.aload_n 0, 1) := by decide +kernel
theorem dX10_make_65 : decode cX10_make 65 = .ok (.getfield 194, 3) := by decide +kernel
theorem dX10_make_68 : decode cX10_make 68 = .ok (.bipush 40, 2) := by decide +kernel
theorem dX10_make_70 : decode cX10_make 70 = .ok (.if_icmp .ne 9, 3) := by decide +kernel
theorem dX10_make_73 : decode cX10_make 73 = .ok (.aload_n 0, 1) := by decide +kernel
theorem dX10_make_74 : decode cX10_make 74 = .ok (.iconst 2, 1) := by decide +kernel
theorem dX10_make_75 : decode cX10_make 75 = .ok (.putfield 126, 3) := by decide +kernel
theorem dX10_make_78 : decode cX10_make 78 = .ok (.return_, 1) := by decide +kernel
theorem dX10_make_79 : decode cX10_make 79 = .ok (.aload_n 0, 1) := by decide +kernel
theorem dX10_make_80 : decode cX10_make 80 = .ok (.getfield 41, 3) := by decide +kernel
theorem dX10_make_83 : decode cX10_make 83 = .ok (.aload_n 0, 1) := by decide +kernel
theorem dX10_make_84 : decode cX10_make 84 = .ok (.getfield 194, 3) := by decide +kernel
theorem dX10_make_87 : decode cX10_make 87 = .ok (.aload_n 0, 1) := by decide +kernel
theorem dX10_make_88 : decode cX10_make 88 = .ok (.getfield 99, 3) := by decide +kernel
theorem dX10_make_91 : decode cX10_make 91 = .ok (.iconst 0, 1) := by decide +kernel
theorem dX10_make_92 : decode cX10_make 92 = .ok (.laload, 1) := by decide +kernel
theorem dX10_make_93 : decode cX10_make 93 = .ok (.l2i, 1) := by decide +kernel
theorem dX10_make_94 : decode cX10_make 94 = .ok (.iastore, 1) := by decide +kernel
theorem dX10_make_95 : decode cX10_make 95 = .ok (.iconst 0, 1) := by decide +kernel
theorem dX10_make_96 : decode cX10_make 96 = .ok (.istore 4, 2) := by decide +kernel
theorem dX10_make_98 : decode cX10_make 98 = .ok (.iload 4, 2) := by decide +kernel
theorem dX10_make_100 : decode cX10_make 100 = .ok (.bipush 8, 2) := by decide +kernel
theorem dX10_make_102 : decode cX10_make 102 = .ok (.if_icmp .ge 41, 3) := by decide +kernel
theorem dX10_make_105 : decode cX10_make 105 = .ok (.aload_n 0, 1) := by decide +kernel
theorem dX10_make_106 : decode cX10_make 106 = .ok (.getfield 44, 3) := by decide +kernel
theorem dX10_make_109 : decode cX10_make 109 = .ok (.bipush 8, 2) := by decide +kernel
theorem dX10_make_111 : decode cX10_make 111 = .ok (.aload_n 0, 1) := by decide +kernel
theorem dX10_make_112 : decode cX10_make 112 = .ok (.getfield 194, 3) := by decide +kernel
theorem dX10_make_115 : decode cX10_make 115 = .ok (.imul, 1) := by decide +kernel
theorem dX10_make_116 : decode cX10_make 116 = .ok (.iload 4, 2) := by decide +kernel
theorem dX10_make_118 : decode cX10_make 118 = .ok (.iadd, 1) := by decide +kernel
theorem dX10_make_119 : decode cX10_make 119 = .ok (.iconst 3, 1) := by decide +kernel
theorem dX10_make_120 : decode cX10_make 120 = .ok (.iastore, 1) := by decide +kernel
theorem dX10_make_121 : decode cX10_make 121 = .ok (.aload_n 0, 1) := by decide +kernel
theorem dX10_make_122 : decode cX10_make 122 = .ok (.getfield 47, 3) := by decide +kernel
theorem dX10_make_125 : decode cX10_make 125 = .ok (.bipush 8, 2) := by decide +kernel
theorem dX10_make_127 : decode cX10_make 127 = .ok (.aload_n 0, 1) := by decide +kernel
theorem dX10_make_128 : decode cX10_make 128 = .ok (.getfield 194, 3) := by decide +kernel
theorem dX10_make_131 : decode cX10_make 131 = .ok (.imul, 1) := by decide +kernel
theorem dX10_make_132 : decode cX10_make 132 = .ok (.iload 4, 2) := by decide +kernel
theorem dX10_make_134 : decode cX10_make 134 = .ok (.iadd, 1) := by decide +kernel
theorem dX10_make_135 : decode cX10_make 135 = .ok (.lconst 0, 1) := by decide +kernel
theorem dX10_make_136 : decode cX10_make 136 = .ok (.lastore, 1) := by decide +kernel
theorem dX10_make_137 : decode cX10_make 137 = .ok (.iinc 4 1, 3) := by decide +kernel
theorem dX10_make_140 : decode cX10_make 140 = .ok (.goto (-42), 3) := by decide +kernel
theorem dX10_make_143 : decode cX10_make 143 = .ok (.aload_n 0, 1) := by decide +kernel
theorem dX10_make_144 : decode cX10_make 144 = .ok (.dup, 1) := by decide +kernel
theorem dX10_make_145 : decode cX10_make 145 = .ok (.getfield 194, 3) := by decide +kernel
theorem dX10_make_148 : decode cX10_make 148 = .ok (.iconst 1, 1) := by decide +kernel
theorem dX10_make_149 : decode cX10_make 149 = .ok (.iadd, 1) := by decide +kernel
theorem dX10_make_150 : decode cX10_make 150 = .ok (.putfield 194, 3) := by decide +kernel
theorem dX10_make_153 : decode cX10_make 153 = .ok (.aload_n 0, 1) := by decide +kernel
theorem dX10_make_154 : decode cX10_make 154 = .ok (.iload_n 1, 1) := by decide +kernel
theorem dX10_make_155 : decode cX10_make 155 = .ok (.iconst 0, 1) := by decide +kernel
theorem dX10_make_156 : decode cX10_make 156 = .ok (.iload_n 2, 1) := by decide +kernel
theorem dX10_make_157 : decode cX10_make 157 = .ok (.iconst 2, 1) := by decide +kernel
theorem dX10_make_158 : decode cX10_make 158 = .ok (.aload_n 0, 1) := by decide +kernel
theorem dX10_make_159 : decode cX10_make 159 = .ok (.getfield 194, 3) := by decide +kernel
theorem dX10_make_162 : decode cX10_make 162 = .ok (.iconst 1, 1) := by decide +kernel
theorem dX10_make_163 : decode cX10_make 163 = .ok (.isub, 1) := by decide +kernel
theorem dX10_make_164 : decode cX10_make 164 = .ok (.i2l, 1) := by decide +kernel
theorem dX10_make_165 : decode cX10_make 165 = .ok (.invokevirtual 147, 3) := by decide +kernel
theorem dX10_make_168 : decode cX10_make 168 = .ok (.return_, 1) := by decide +kernel
theorem dX10_atCell_0 : decode cX10_atCell 0 = .ok (.aload_n 0, 1) := by decide +kernel
theorem dX10_atCell_1 : decode cX10_atCell 1 = .ok (.iconst 2, 1) := by decide +kernel
theorem dX10_atCell_2 : decode cX10_atCell 2 = .ok (.invokevirtual 178, 3) := by decide +kernel
theorem dX10_atCell_5 : decode cX10_atCell 5 = .ok (.istore_n 3, 1) := by decide +kernel
theorem dX10_atCell_6 : decode cX10_atCell 6 = .ok (.iload_n 3, 1) := by decide +kernel
theorem dX10_atCell_7 : decode cX10_atCell 7 = .ok (.ifCond .ne 24, 3) := by decide +kernel
theorem dX10_atCell_10 : decode cX10_atCell 10 = .ok (.aload_n 0, 1) := by decide +kernel
theorem dX10_atCell_11 : decode cX10_atCell 11 = .ok (.getfield 96, 3) := by decide +kernel
theorem dX10_atCell_14 : decode cX10_atCell 14 = .ok (.iconst 0, 1) := by decide +kernel
theorem dX10_atCell_15 : decode cX10_atCell 15 = .ok (.iaload, 1) := by decide +kernel
theorem dX10_atCell_16 : decode cX10_atCell 16 = .ok (.iconst 2, 1) := by decide +kernel
theorem dX10_atCell_17 : decode cX10_atCell 17 = .ok (.if_icmp .ne 12, 3) := by decide +kernel
theorem dX10_atCell_20 : decode cX10_atCell 20 = .ok (.aload_n 0, 1) := by decide +kernel
theorem dX10_atCell_21 : decode cX10_atCell 21 = .ok (.getfield 96, 3) := by decide +kernel
theorem dX10_atCell_24 : decode cX10_atCell 24 = .ok (.iconst 1, 1) := by decide +kernel
theorem dX10_atCell_25 : decode cX10_atCell 25 = .ok (.iaload, 1) := by decide +kernel
theorem dX10_atCell_26 : decode cX10_atCell 26 = .ok (.ifCond .eq 5, 3) := by decide +kernel
theorem dX10_atCell_29 : decode cX10_atCell 29 = .ok (.iconst 4, 1) := by decide +kernel
theorem dX10_atCell_30 : decode cX10_atCell 30 = .ok (.istore_n 3, 1) := by decide +kernel
theorem dX10_atCell_31 : decode cX10_atCell 31 = .ok (.iload_n 3, 1) := by decide +kernel
theorem dX10_atCell_32 : decode cX10_atCell 32 = .ok (.ifCond .ne 39, 3) := by decide +kernel
theorem dX10_atCell_35 : decode cX10_atCell 35 = .ok (.aload_n 0, 1) := by decide +kernel
theorem dX10_atCell_36 : decode cX10_atCell 36 = .ok (.getfield 99, 3) := by decide +kernel
theorem dX10_atCell_39 : decode cX10_atCell 39 = .ok (.iconst 1, 1) := by decide +kernel
theorem dX10_atCell_40 : decode cX10_atCell 40 = .ok (.laload, 1) := by decide +kernel
theorem dX10_atCell_41 : decode cX10_atCell 41 = .ok (.lconst 0, 1) := by decide +kernel
theorem dX10_atCell_42 : decode cX10_atCell 42 = .ok (.lcmp, 1) := by decide +kernel
theorem dX10_atCell_43 : decode cX10_atCell 43 = .ok (.ifCond .lt 26, 3) := by decide +kernel
theorem dX10_atCell_46 : decode cX10_atCell 46 = .ok (.aload_n 0, 1) := by decide +kernel
theorem dX10_atCell_47 : decode cX10_atCell 47 = .ok (.getfield 99, 3) := by decide +kernel
theorem dX10_atCell_50 : decode cX10_atCell 50 = .ok (.iconst 1, 1) := by decide +kernel
theorem dX10_atCell_51 : decode cX10_atCell 51 = .ok (.laload, 1) := by decide +kernel
theorem dX10_atCell_52 : decode cX10_atCell 52 = .ok (.aload_n 0, 1) := by decide +kernel
theorem dX10_atCell_53 : decode cX10_atCell 53 = .ok (.getfield 41, 3) := by decide +kernel
theorem dX10_atCell_56 : decode cX10_atCell 56 = .ok (.aload_n 0, 1) := by decide +kernel
theorem dX10_atCell_57 : decode cX10_atCell 57 = .ok (.getfield 99, 3) := by decide +kernel
theorem dX10_atCell_60 : decode cX10_atCell 60 = .ok (.iconst 0, 1) := by decide +kernel
theorem dX10_atCell_61 : decode cX10_atCell 61 = .ok (.laload, 1) := by decide +kernel
theorem dX10_atCell_62 : decode cX10_atCell 62 = .ok (.l2i, 1) := by decide +kernel
theorem dX10_atCell_63 : decode cX10_atCell 63 = .ok (.iaload, 1) := by decide +kernel
theorem dX10_atCell_64 : decode cX10_atCell 64 = .ok (.i2l, 1) := by decide +kernel
theorem dX10_atCell_65 : decode cX10_atCell 65 = .ok (.lcmp, 1) := by decide +kernel
theorem dX10_atCell_66 : decode cX10_atCell 66 = .ok (.ifCond .lt 5, 3) := by decide +kernel
theorem dX10_atCell_69 : decode cX10_atCell 69 = .ok (.iconst 3, 1) := by decide +kernel
theorem dX10_atCell_70 : decode cX10_atCell 70 = .ok (.istore_n 3, 1) := by decide +kernel
theorem dX10_atCell_71 : decode cX10_atCell 71 = .ok (.iload_n 3, 1) := by decide +kernel
theorem dX10_atCell_72 : decode cX10_atCell 72 = .ok (.ifCond .le 11, 3) := by decide +kernel
theorem dX10_atCell_75 : decode cX10_atCell 75 = .ok (.aload_n 0, 1) := by decide +kernel
theorem dX10_atCell_76 : decode cX10_atCell 76 = .ok (.iload_n 1, 1) := by decide +kernel
theorem dX10_atCell_77 : decode cX10_atCell 77 = .ok (.iload_n 2, 1) := by decide +kernel
theorem dX10_atCell_78 : decode cX10_atCell 78 = .ok (.iload_n 3, 1) := by decide +kernel
theorem dX10_atCell_79 : decode cX10_atCell 79 = .ok (.invokevirtual 181, 3) := by decide +kernel
theorem dX10_atCell_82 : decode cX10_atCell 82 = .ok (.return_, 1) := by decide +kernel
theorem dX10_atCell_83 : decode cX10_atCell 83 = .ok (.bipush 8, 2) := by decide +kernel
theorem dX10_atCell_85 : decode cX10_atCell 85 = .ok (.aload_n 0, 1) := by decide +kernel
theorem dX10_atCell_86 : decode cX10_atCell 86 = .ok (.getfield 99, 3) := by decide +kernel
theorem dX10_atCell_89 : decode cX10_atCell 89 = .ok (.iconst 0, 1) := by decide +kernel
theorem dX10_atCell_90 : decode cX10_atCell 90 = .ok (.laload, 1) := by decide +kernel
theorem dX10_atCell_91 : decode cX10_atCell 91 = .ok (.l2i, 1) := by decide +kernel
theorem dX10_atCell_92 : decode cX10_atCell 92 = .ok (.imul, 1) := by decide +kernel
theorem dX10_atCell_93 : decode cX10_atCell 93 = .ok (.aload_n 0, 1) := by decide +kernel
theorem dX10_atCell_94 : decode cX10_atCell 94 = .ok (.getfield 99, 3) := by decide +kernel
theorem dX10_atCell_97 : decode cX10_atCell 97 = .ok (.iconst 1, 1) := by decide +kernel
theorem dX10_atCell_98 : decode cX10_atCell 98 = .ok (.laload, 1) := by decide +kernel
theorem dX10_atCell_99 : decode cX10_atCell 99 = .ok (.l2i, 1) := by decide +kernel
theorem dX10_atCell_100 : decode cX10_atCell 100 = .ok (.iadd, 1) := by decide +kernel
theorem dX10_atCell_101 : decode cX10_atCell 101 = .ok (.istore 4, 2) := by decide +kernel
theorem dX10_atCell_103 : decode cX10_atCell 103 = .ok (.aload_n 0, 1) := by decide +kernel
theorem dX10_atCell_104 : decode cX10_atCell 104 = .ok (.getfield 7, 3) := by decide +kernel
theorem dX10_atCell_107 : decode cX10_atCell 107 = .ok (.iload_n 1, 1) := by decide +kernel
theorem dX10_atCell_108 : decode cX10_atCell 108 = .ok (.iaload, 1) := by decide +kernel
theorem dX10_atCell_109 : decode cX10_atCell 109 = .ok (.bipush 16, 2) := by decide +kernel
theorem dX10_atCell_111 : decode cX10_atCell 111 = .ok (.if_icmp .ne 14, 3) := by decide +kernel
theorem dX10_atCell_114 : decode cX10_atCell 114 = .ok (.aload_n 0, 1) := by decide +kernel
theorem dX10_atCell_115 : decode cX10_atCell 115 = .ok (.iload_n 1, 1) := by decide +kernel
theorem dX10_atCell_116 : decode cX10_atCell 116 = .ok (.iload_n 2, 1) := by decide +kernel
theorem dX10_atCell_117 : decode cX10_atCell 117 = .ok (.iload 4, 2) := by decide +kernel
theorem dX10_atCell_119 : decode cX10_atCell 119 = .ok (.invokevirtual 197, 3) := by decide +kernel
theorem dX10_atCell_122 : decode cX10_atCell 122 = .ok (.goto 79, 3) := by decide +kernel
theorem dX10_atCell_125 : decode cX10_atCell 125 = .ok (.aload_n 0, 1) := by decide +kernel
theorem dX10_atCell_126 : decode cX10_atCell 126 = .ok (.getfield 44, 3) := by decide +kernel
theorem dX10_atCell_129 : decode cX10_atCell 129 = .ok (.iload 4, 2) := by decide +kernel
theorem dX10_atCell_131 : decode cX10_atCell 131 = .ok (.iaload, 1) := by decide +kernel
theorem dX10_atCell_132 : decode cX10_atCell 132 = .ok (.iconst 3, 1) := by decide +kernel
theorem dX10_atCell_133 : decode cX10_atCell 133 = .ok (.if_icmp .eq 27, 3) := by decide +kernel
theorem dX10_atCell_136 : decode cX10_atCell 136 = .ok (.aload_n 0, 1) := by decide +kernel
theorem dX10_atCell_137 : decode cX10_atCell 137 = .ok (.iload_n 1, 1) := by decide +kernel
theorem dX10_atCell_138 : decode cX10_atCell 138 = .ok (.iconst 0, 1) := by decide +kernel
theorem dX10_atCell_139 : decode cX10_atCell 139 = .ok (.iload_n 2, 1) := by decide +kernel
theorem dX10_atCell_140 : decode cX10_atCell 140 = .ok (.aload_n 0, 1) := by decide +kernel
theorem dX10_atCell_141 : decode cX10_atCell 141 = .ok (.getfield 44, 3) := by decide +kernel
theorem dX10_atCell_144 : decode cX10_atCell 144 = .ok (.iload 4, 2) := by decide +kernel
theorem dX10_atCell_146 : decode cX10_atCell 146 = .ok (.iaload, 1) := by decide +kernel
theorem dX10_atCell_147 : decode cX10_atCell 147 = .ok (.aload_n 0, 1) := by decide +kernel
theorem dX10_atCell_148 : decode cX10_atCell 148 = .ok (.getfield 47, 3) := by decide +kernel
theorem dX10_atCell_151 : decode cX10_atCell 151 = .ok (.iload 4, 2) := by decide +kernel
theorem dX10_atCell_153 : decode cX10_atCell 153 = .ok (.laload, 1) := by decide +kernel
theorem dX10_atCell_154 : decode cX10_atCell 154 = .ok (.invokevirtual 147, 3) := by decide +kernel
theorem dX10_atCell_157 : decode cX10_atCell 157 = .ok (.goto 44, 3) := by decide +kernel
theorem dX10_atCell_160 : decode cX10_atCell 160 = .ok (.aload_n 0, 1) := by decide +kernel
theorem dX10_atCell_161 : decode cX10_atCell 161 = .ok (.getfield 78, 3) := by decide +kernel
theorem dX10_atCell_164 : decode cX10_atCell 164 = .ok (.aload_n 0, 1) := by decide +kernel
theorem dX10_atCell_165 : decode cX10_atCell 165 = .ok (.getfield 136, 3) := by decide +kernel
theorem dX10_atCell_168 : decode cX10_atCell 168 = .ok (.iload_n 1, 1) := by decide +kernel
theorem dX10_atCell_169 : decode cX10_atCell 169 = .ok (.iastore, 1) := by decide +kernel
theorem dX10_atCell_170 : decode cX10_atCell 170 = .ok (.aload_n 0, 1) := by decide +kernel
theorem dX10_atCell_171 : decode cX10_atCell 171 = .ok (.getfield 81, 3) := by decide +kernel
theorem dX10_atCell_174 : decode cX10_atCell 174 = .ok (.aload_n 0, 1) := by decide +kernel
theorem dX10_atCell_175 : decode cX10_atCell 175 = .ok (.getfield 136, 3) := by decide +kernel
theorem dX10_atCell_178 : decode cX10_atCell 178 = .ok (.iload_n 2, 1) := by decide +kernel
theorem dX10_atCell_179 : decode cX10_atCell 179 = .ok (.iastore, 1) := by decide +kernel
theorem dX10_atCell_180 : decode cX10_atCell 180 = .ok (.aload_n 0, 1) := by decide +kernel
theorem dX10_atCell_181 : decode cX10_atCell 181 = .ok (.getfield 84, 3) := by decide +kernel
theorem dX10_atCell_184 : decode cX10_atCell 184 = .ok (.aload_n 0, 1) := by decide +kernel
theorem dX10_atCell_185 : decode cX10_atCell 185 = .ok (.getfield 136, 3) := by decide +kernel
theorem dX10_atCell_188 : decode cX10_atCell 188 = .ok (.iload 4, 2) := by decide +kernel
theorem dX10_atCell_190 : decode cX10_atCell 190 = .ok (.iastore, 1) := by decide +kernel
theorem dX10_atCell_191 : decode cX10_atCell 191 = .ok (.aload_n 0, 1) := by decide +kernel
theorem dX10_atCell_192 : decode cX10_atCell 192 = .ok (.dup, 1) := by decide +kernel
theorem dX10_atCell_193 : decode cX10_atCell 193 = .ok (.getfield 136, 3) := by decide +kernel
theorem dX10_atCell_196 : decode cX10_atCell 196 = .ok (.iconst 1, 1) := by decide +kernel
theorem dX10_atCell_197 : decode cX10_atCell 197 = .ok (.iadd, 1) := by decide +kernel
theorem dX10_atCell_198 : decode cX10_atCell 198 = .ok (.putfield 136, 3) := by decide +kernel
theorem dX10_atCell_201 : decode cX10_atCell 201 = .ok (.return_, 1) := by decide +kernel
theorem dX10_store_0 : decode cX10_store 0 = .ok (.aload_n 0, 1) := by decide +kernel
theorem dX10_store_1 : decode cX10_store 1 = .ok (.getfield 44, 3) := by decide +kernel
theorem dX10_store_4 : decode cX10_store 4 = .ok (.iload_n 3, 1) := by decide +kernel
theorem dX10_store_5 : decode cX10_store 5 = .ok (.iaload, 1) := by decide +kernel
theorem dX10_store_6 : decode cX10_store 6 = .ok (.iconst 3, 1) := by decide +kernel
theorem dX10_store_7 : decode cX10_store 7 = .ok (.if_icmp .eq 9, 3) := by decide +kernel
theorem dX10_store_10 : decode cX10_store 10 = .ok (.aload_n 0, 1) := by decide +kernel
theorem dX10_store_11 : decode cX10_store 11 = .ok (.iconst 3, 1) := by decide +kernel
theorem dX10_store_12 : decode cX10_store 12 = .ok (.putfield 126, 3) := by decide +kernel
theorem dX10_store_15 : decode cX10_store 15 = .ok (.return_, 1) := by decide +kernel
theorem dX10_store_16 : decode cX10_store 16 = .ok (.aload_n 0, 1) := by decide +kernel
theorem dX10_store_17 : decode cX10_store 17 = .ok (.getfield 44, 3) := by decide +kernel
theorem dX10_store_20 : decode cX10_store 20 = .ok (.iload_n 3, 1) := by decide +kernel
theorem dX10_store_21 : decode cX10_store 21 = .ok (.aload_n 0, 1) := by decide +kernel
theorem dX10_store_22 : decode cX10_store 22 = .ok (.getfield 96, 3) := by decide +kernel
theorem dX10_store_25 : decode cX10_store 25 = .ok (.iconst 2, 1) := by decide +kernel
theorem dX10_store_26 : decode cX10_store 26 = .ok (.iaload, 1) := by decide +kernel
theorem dX10_store_27 : decode cX10_store 27 = .ok (.iastore, 1) := by decide +kernel
theorem dX10_store_28 : decode cX10_store 28 = .ok (.aload_n 0, 1) := by decide +kernel
theorem dX10_store_29 : decode cX10_store 29 = .ok (.getfield 47, 3) := by decide +kernel
theorem dX10_store_32 : decode cX10_store 32 = .ok (.iload_n 3, 1) := by decide +kernel
theorem dX10_store_33 : decode cX10_store 33 = .ok (.aload_n 0, 1) := by decide +kernel
theorem dX10_store_34 : decode cX10_store 34 = .ok (.getfield 99, 3) := by decide +kernel
theorem dX10_store_37 : decode cX10_store 37 = .ok (.iconst 2, 1) := by decide +kernel
theorem dX10_store_38 : decode cX10_store 38 = .ok (.laload, 1) := by decide +kernel
theorem dX10_store_39 : decode cX10_store 39 = .ok (.lastore, 1) := by decide +kernel
theorem dX10_store_40 : decode cX10_store 40 = .ok (.aload_n 0, 1) := by decide +kernel
theorem dX10_store_41 : decode cX10_store 41 = .ok (.iload_n 1, 1) := by decide +kernel
theorem dX10_store_42 : decode cX10_store 42 = .ok (.iconst 0, 1) := by decide +kernel
theorem dX10_store_43 : decode cX10_store 43 = .ok (.iload_n 2, 1) := by decide +kernel
theorem dX10_store_44 : decode cX10_store 44 = .ok (.aload_n 0, 1) := by decide +kernel
theorem dX10_store_45 : decode cX10_store 45 = .ok (.getfield 44, 3) := by decide +kernel
theorem dX10_store_48 : decode cX10_store 48 = .ok (.iload_n 3, 1) := by decide +kernel
theorem dX10_store_49 : decode cX10_store 49 = .ok (.iaload, 1) := by decide +kernel
theorem dX10_store_50 : decode cX10_store 50 = .ok (.aload_n 0, 1) := by decide +kernel
theorem dX10_store_51 : decode cX10_store 51 = .ok (.getfield 47, 3) := by decide +kernel
theorem dX10_store_54 : decode cX10_store 54 = .ok (.iload_n 3, 1) := by decide +kernel
theorem dX10_store_55 : decode cX10_store 55 = .ok (.laload, 1) := by decide +kernel
theorem dX10_store_56 : decode cX10_store 56 = .ok (.invokevirtual 147, 3) := by decide +kernel
theorem dX10_store_59 : decode cX10_store 59 = .ok (.iconst 0, 1) := by decide +kernel
theorem dX10_store_60 : decode cX10_store 60 = .ok (.istore 4, 2) := by decide +kernel
theorem dX10_store_62 : decode cX10_store 62 = .ok (.iload 4, 2) := by decide +kernel
theorem dX10_store_64 : decode cX10_store 64 = .ok (.aload_n 0, 1) := by decide +kernel
theorem dX10_store_65 : decode cX10_store 65 = .ok (.getfield 136, 3) := by decide +kernel
theorem dX10_store_68 : decode cX10_store 68 = .ok (.if_icmp .ge 36, 3) := by decide +kernel
theorem dX10_store_71 : decode cX10_store 71 = .ok (.aload_n 0, 1) := by decide +kernel
theorem dX10_store_72 : decode cX10_store 72 = .ok (.getfield 126, 3) := by decide +kernel
theorem dX10_store_75 : decode cX10_store 75 = .ok (.ifCond .ne 29, 3) := by decide +kernel
theorem dX10_store_78 : decode cX10_store 78 = .ok (.aload_n 0, 1) := by decide +kernel
theorem dX10_store_79 : decode cX10_store 79 = .ok (.getfield 84, 3) := by decide +kernel
theorem dX10_store_82 : decode cX10_store 82 = .ok (.iload 4, 2) := by decide +kernel
theorem dX10_store_84 : decode cX10_store 84 = .ok (.iaload, 1) := by decide +kernel
theorem dX10_store_85 : decode cX10_store 85 = .ok (.iload_n 3, 1) := by decide +kernel
theorem dX10_store_86 : decode cX10_store 86 = .ok (.if_icmp .ne 12, 3) := by decide +kernel
theorem dX10_store_89 : decode cX10_store 89 = .ok (.aload_n 0, 1) := by decide +kernel
theorem dX10_store_90 : decode cX10_store 90 = .ok (.iload 4, 2) := by decide +kernel
theorem dX10_store_92 : decode cX10_store 92 = .ok (.invokevirtual 200, 3) := by decide +kernel
theorem dX10_store_95 : decode cX10_store 95 = .ok (.goto (-33), 3) := by decide +kernel
theorem dX10_store_98 : decode cX10_store 98 = .ok (.iinc 4 1, 3) := by decide +kernel
theorem dX10_store_101 : decode cX10_store 101 = .ok (.goto (-39), 3) := by decide +kernel
theorem dX10_store_104 : decode cX10_store 104 = .ok (.return_, 1) := by decide +kernel
theorem dX10_serve_0 : decode cX10_serve 0 = .ok (.aload_n 0, 1) := by decide +kernel
theorem dX10_serve_1 : decode cX10_serve 1 = .ok (.getfield 78, 3) := by decide +kernel
theorem dX10_serve_4 : decode cX10_serve 4 = .ok (.iload_n 1, 1) := by decide +kernel
theorem dX10_serve_5 : decode cX10_serve 5 = .ok (.iaload, 1) := by decide +kernel
theorem dX10_serve_6 : decode cX10_serve 6 = .ok (.istore_n 2, 1) := by decide +kernel
theorem dX10_serve_7 : decode cX10_serve 7 = .ok (.aload_n 0, 1) := by decide +kernel
theorem dX10_serve_8 : decode cX10_serve 8 = .ok (.getfield 81, 3) := by decide +kernel
theorem dX10_serve_11 : decode cX10_serve 11 = .ok (.iload_n 1, 1) := by decide +kernel
theorem dX10_serve_12 : decode cX10_serve 12 = .ok (.iaload, 1) := by decide +kernel
theorem dX10_serve_13 : decode cX10_serve 13 = .ok (.istore_n 3, 1) := by decide +kernel
theorem dX10_serve_14 : decode cX10_serve 14 = .ok (.aload_n 0, 1) := by decide +kernel
theorem dX10_serve_15 : decode cX10_serve 15 = .ok (.getfield 84, 3) := by decide +kernel
theorem dX10_serve_18 : decode cX10_serve 18 = .ok (.iload_n 1, 1) := by decide +kernel
theorem dX10_serve_19 : decode cX10_serve 19 = .ok (.iaload, 1) := by decide +kernel
theorem dX10_serve_20 : decode cX10_serve 20 = .ok (.istore 4, 2) := by decide +kernel
theorem dX10_serve_22 : decode cX10_serve 22 = .ok (.aload_n 0, 1) := by decide +kernel
theorem dX10_serve_23 : decode cX10_serve 23 = .ok (.dup, 1) := by decide +kernel
theorem dX10_serve_24 : decode cX10_serve 24 = .ok (.getfield 136, 3) := by decide +kernel
theorem dX10_serve_27 : decode cX10_serve 27 = .ok (.iconst 1, 1) := by decide +kernel
theorem dX10_serve_28 : decode cX10_serve 28 = .ok (.isub, 1) := by decide +kernel
theorem dX10_serve_29 : decode cX10_serve 29 = .ok (.putfield 136, 3) := by decide +kernel
theorem dX10_serve_32 : decode cX10_serve 32 = .ok (.iload_n 1, 1) := by decide +kernel
theorem dX10_serve_33 : decode cX10_serve 33 = .ok (.istore 5, 2) := by decide +kernel
theorem dX10_serve_35 : decode cX10_serve 35 = .ok (.iload 5, 2) := by decide +kernel
theorem dX10_serve_37 : decode cX10_serve 37 = .ok (.aload_n 0, 1) := by decide +kernel
theorem dX10_serve_38 : decode cX10_serve 38 = .ok (.getfield 136, 3) := by decide +kernel
theorem dX10_serve_41 : decode cX10_serve 41 = .ok (.if_icmp .ge 57, 3) := by decide +kernel
theorem dX10_serve_44 : decode cX10_serve 44 = .ok (.aload_n 0, 1) := by decide +kernel
theorem dX10_serve_45 : decode cX10_serve 45 = .ok (.getfield 78, 3) := by decide +kernel
theorem dX10_serve_48 : decode cX10_serve 48 = .ok (.iload 5, 2) := by decide +kernel
theorem dX10_serve_50 : decode cX10_serve 50 = .ok (.aload_n 0, 1) := by decide +kernel
theorem dX10_serve_51 : decode cX10_serve 51 = .ok (.getfield 78, 3) := by decide +kernel
theorem dX10_serve_54 : decode cX10_serve 54 = .ok (.iload 5, 2) := by decide +kernel
theorem dX10_serve_56 : decode cX10_serve 56 = .ok (.iconst 1, 1) := by decide +kernel
theorem dX10_serve_57 : decode cX10_serve 57 = .ok (.iadd, 1) := by decide +kernel
theorem dX10_serve_58 : decode cX10_serve 58 = .ok (.iaload, 1) := by decide +kernel
theorem dX10_serve_59 : decode cX10_serve 59 = .ok (.iastore, 1) := by decide +kernel
theorem dX10_serve_60 : decode cX10_serve 60 = .ok (.aload_n 0, 1) := by decide +kernel
theorem dX10_serve_61 : decode cX10_serve 61 = .ok (.getfield 81, 3) := by decide +kernel
theorem dX10_serve_64 : decode cX10_serve 64 = .ok (.iload 5, 2) := by decide +kernel
theorem dX10_serve_66 : decode cX10_serve 66 = .ok (.aload_n 0, 1) := by decide +kernel
theorem dX10_serve_67 : decode cX10_serve 67 = .ok (.getfield 81, 3) := by decide +kernel
theorem dX10_serve_70 : decode cX10_serve 70 = .ok (.iload 5, 2) := by decide +kernel
theorem dX10_serve_72 : decode cX10_serve 72 = .ok (.iconst 1, 1) := by decide +kernel
theorem dX10_serve_73 : decode cX10_serve 73 = .ok (.iadd, 1) := by decide +kernel
theorem dX10_serve_74 : decode cX10_serve 74 = .ok (.iaload, 1) := by decide +kernel
theorem dX10_serve_75 : decode cX10_serve 75 = .ok (.iastore, 1) := by decide +kernel
theorem dX10_serve_76 : decode cX10_serve 76 = .ok (.aload_n 0, 1) := by decide +kernel
theorem dX10_serve_77 : decode cX10_serve 77 = .ok (.getfield 84, 3) := by decide +kernel
theorem dX10_serve_80 : decode cX10_serve 80 = .ok (.iload 5, 2) := by decide +kernel
theorem dX10_serve_82 : decode cX10_serve 82 = .ok (.aload_n 0, 1) := by decide +kernel
theorem dX10_serve_83 : decode cX10_serve 83 = .ok (.getfield 84, 3) := by decide +kernel
theorem dX10_serve_86 : decode cX10_serve 86 = .ok (.iload 5, 2) := by decide +kernel
theorem dX10_serve_88 : decode cX10_serve 88 = .ok (.iconst 1, 1) := by decide +kernel
theorem dX10_serve_89 : decode cX10_serve 89 = .ok (.iadd, 1) := by decide +kernel
theorem dX10_serve_90 : decode cX10_serve 90 = .ok (.iaload, 1) := by decide +kernel
theorem dX10_serve_91 : decode cX10_serve 91 = .ok (.iastore, 1) := by decide +kernel
theorem dX10_serve_92 : decode cX10_serve 92 = .ok (.iinc 5 1, 3) := by decide +kernel
theorem dX10_serve_95 : decode cX10_serve 95 = .ok (.goto (-60), 3) := by decide +kernel
theorem dX10_serve_98 : decode cX10_serve 98 = .ok (.aload_n 0, 1) := by decide +kernel
theorem dX10_serve_99 : decode cX10_serve 99 = .ok (.iload_n 2, 1) := by decide +kernel
theorem dX10_serve_100 : decode cX10_serve 100 = .ok (.iconst 0, 1) := by decide +kernel
theorem dX10_serve_101 : decode cX10_serve 101 = .ok (.iload_n 3, 1) := by decide +kernel
theorem dX10_serve_102 : decode cX10_serve 102 = .ok (.aload_n 0, 1) := by decide +kernel
theorem dX10_serve_103 : decode cX10_serve 103 = .ok (.getfield 44, 3) := by decide +kernel
theorem dX10_serve_106 : decode cX10_serve 106 = .ok (.iload 4, 2) := by decide +kernel
theorem dX10_serve_108 : decode cX10_serve 108 = .ok (.iaload, 1) := by decide +kernel
theorem dX10_serve_109 : decode cX10_serve 109 = .ok (.aload_n 0, 1) := by decide +kernel
theorem dX10_serve_110 : decode cX10_serve 110 = .ok (.getfield 47, 3) := by decide +kernel
theorem dX10_serve_113 : decode cX10_serve 113 = .ok (.iload 4, 2) := by decide +kernel
theorem dX10_serve_115 : decode cX10_serve 115 = .ok (.laload, 1) := by decide +kernel
theorem dX10_serve_116 : decode cX10_serve 116 = .ok (.invokevirtual 147, 3) := by decide +kernel
theorem dX10_serve_119 : decode cX10_serve 119 = .ok (.return_, 1) := by decide +kernel
theorem dX10_run_0 : decode cX10_run 0 = .ok (.iload_n 1, 1) := by decide +kernel
theorem dX10_run_1 : decode cX10_run 1 = .ok (.iconst 1, 1) := by decide +kernel
theorem dX10_run_2 : decode cX10_run 2 = .ok (.if_icmp .lt 10, 3) := by decide +kernel
theorem dX10_run_5 : decode cX10_run 5 = .ok (.iload_n 1, 1) := by decide +kernel
theorem dX10_run_6 : decode cX10_run 6 = .ok (.sipush 500, 3) := by decide +kernel
theorem dX10_run_9 : decode cX10_run 9 = .ok (.if_icmp .le 9, 3) := by decide +kernel
theorem dX10_run_12 : decode cX10_run 12 = .ok (.aload_n 0, 1) := by decide +kernel
theorem dX10_run_13 : decode cX10_run 13 = .ok (.iconst 1, 1) := by decide +kernel
theorem dX10_run_14 : decode cX10_run 14 = .ok (.invokevirtual 108, 3) := by decide +kernel
theorem dX10_run_17 : decode cX10_run 17 = .ok (.ireturn, 1) := by decide +kernel
theorem dX10_run_18 : decode cX10_run 18 = .ok (.aload_n 0, 1) := by decide +kernel
theorem dX10_run_19 : decode cX10_run 19 = .ok (.getfield 203, 3) := by decide +kernel
theorem dX10_run_22 : decode cX10_run 22 = .ok (.sipush 5000, 3) := by decide +kernel
theorem dX10_run_25 : decode cX10_run 25 = .ok (.if_icmp .ne 9, 3) := by decide +kernel
theorem dX10_run_28 : decode cX10_run 28 = .ok (.aload_n 0, 1) := by decide +kernel
theorem dX10_run_29 : decode cX10_run 29 = .ok (.iconst 2, 1) := by decide +kernel
theorem dX10_run_30 : decode cX10_run 30 = .ok (.invokevirtual 108, 3) := by decide +kernel
theorem dX10_run_33 : decode cX10_run 33 = .ok (.ireturn, 1) := by decide +kernel
theorem dX10_run_34 : decode cX10_run 34 = .ok (.aload_n 0, 1) := by decide +kernel
theorem dX10_run_35 : decode cX10_run 35 = .ok (.iconst 0, 1) := by decide +kernel
theorem dX10_run_36 : decode cX10_run 36 = .ok (.putfield 102, 3) := by decide +kernel
theorem dX10_run_39 : decode cX10_run 39 = .ok (.lload_n 2, 1) := by decide +kernel
theorem dX10_run_40 : decode cX10_run 40 = .ok (.lstore 4, 2) := by decide +kernel
theorem dX10_run_42 : decode cX10_run 42 = .ok (.iconst 0, 1) := by decide +kernel
theorem dX10_run_43 : decode cX10_run 43 = .ok (.istore 6, 2) := by decide +kernel
theorem dX10_run_45 : decode cX10_run 45 = .ok (.iload 6, 2) := by decide +kernel
theorem dX10_run_47 : decode cX10_run 47 = .ok (.iload_n 1, 1) := by decide +kernel
theorem dX10_run_48 : decode cX10_run 48 = .ok (.if_icmp .ge 84, 3) := by decide +kernel
theorem dX10_run_51 : decode cX10_run 51 = .ok (.aload_n 0, 1) := by decide +kernel
theorem dX10_run_52 : decode cX10_run 52 = .ok (.getfield 133, 3) := by decide +kernel
theorem dX10_run_55 : decode cX10_run 55 = .ok (.ifCond .le 77, 3) := by decide +kernel
theorem dX10_run_58 : decode cX10_run 58 = .ok (.aload_n 0, 1) := by decide +kernel
theorem dX10_run_59 : decode cX10_run 59 = .ok (.getfield 126, 3) := by decide +kernel
theorem dX10_run_62 : decode cX10_run 62 = .ok (.ifCond .ne 70, 3) := by decide +kernel
theorem dX10_run_65 : decode cX10_run 65 = .ok (.aload_n 0, 1) := by decide +kernel
theorem dX10_run_66 : decode cX10_run 66 = .ok (.getfield 203, 3) := by decide +kernel
theorem dX10_run_69 : decode cX10_run 69 = .ok (.sipush 5000, 3) := by decide +kernel
theorem dX10_run_72 : decode cX10_run 72 = .ok (.if_icmp .ge 60, 3) := by decide +kernel
theorem dX10_run_75 : decode cX10_run 75 = .ok (.lload 4, 2) := by decide +kernel
theorem dX10_run_77 : decode cX10_run 77 = .ok (.iconst 1, 1) := by decide +kernel
theorem dX10_run_78 : decode cX10_run 78 = .ok (.lushr, 1) := by decide +kernel
theorem dX10_run_79 : decode cX10_run 79 = .ok (.aload_n 0, 1) := by decide +kernel
theorem dX10_run_80 : decode cX10_run 80 = .ok (.getfield 133, 3) := by decide +kernel
theorem dX10_run_83 : decode cX10_run 83 = .ok (.i2l, 1) := by decide +kernel
theorem dX10_run_84 : decode cX10_run 84 = .ok (.lrem, 1) := by decide +kernel
theorem dX10_run_85 : decode cX10_run 85 = .ok (.l2i, 1) := by decide +kernel
theorem dX10_run_86 : decode cX10_run 86 = .ok (.istore 7, 2) := by decide +kernel
theorem dX10_run_88 : decode cX10_run 88 = .ok (.lload 4, 2) := by decide +kernel
theorem dX10_run_90 : decode cX10_run 90 = .ok (.ldc2_w 206, 3) := by decide +kernel
theorem dX10_run_93 : decode cX10_run 93 = .ok (.lmul, 1) := by decide +kernel
theorem dX10_run_94 : decode cX10_run 94 = .ok (.ldc2_w 208, 3) := by decide +kernel
theorem dX10_run_97 : decode cX10_run 97 = .ok (.ladd, 1) := by decide +kernel
theorem dX10_run_98 : decode cX10_run 98 = .ok (.lstore 4, 2) := by decide +kernel
theorem dX10_run_100 : decode cX10_run 100 = .ok (.iinc 6 1, 3) := by decide +kernel
theorem dX10_run_103 : decode cX10_run 103 = .ok (.aload_n 0, 1) := by decide +kernel
theorem dX10_run_104 : decode cX10_run 104 = .ok (.dup, 1) := by decide +kernel
theorem dX10_run_105 : decode cX10_run 105 = .ok (.getfield 210, 3) := by decide +kernel
theorem dX10_run_108 : decode cX10_run 108 = .ok (.iconst 1, 1) := by decide +kernel
theorem dX10_run_109 : decode cX10_run 109 = .ok (.iadd, 1) := by decide +kernel
theorem dX10_run_110 : decode cX10_run 110 = .ok (.putfield 210, 3) := by decide +kernel
theorem dX10_run_113 : decode cX10_run 113 = .ok (.aload_n 0, 1) := by decide +kernel
theorem dX10_run_114 : decode cX10_run 114 = .ok (.dup, 1) := by decide +kernel
theorem dX10_run_115 : decode cX10_run 115 = .ok (.getfield 203, 3) := by decide +kernel
theorem dX10_run_118 : decode cX10_run 118 = .ok (.iconst 1, 1) := by decide +kernel
theorem dX10_run_119 : decode cX10_run 119 = .ok (.iadd, 1) := by decide +kernel
theorem dX10_run_120 : decode cX10_run 120 = .ok (.putfield 203, 3) := by decide +kernel
theorem dX10_run_123 : decode cX10_run 123 = .ok (.aload_n 0, 1) := by decide +kernel
theorem dX10_run_124 : decode cX10_run 124 = .ok (.iload 7, 2) := by decide +kernel
theorem dX10_run_126 : decode cX10_run 126 = .ok (.invokevirtual 213, 3) := by decide +kernel
theorem dX10_run_129 : decode cX10_run 129 = .ok (.goto (-84), 3) := by decide +kernel
theorem dX10_run_132 : decode cX10_run 132 = .ok (.iload 6, 2) := by decide +kernel
theorem dX10_run_134 : decode cX10_run 134 = .ok (.ireturn, 1) := by decide +kernel
theorem dX10_clear_0 : decode cX10_clear 0 = .ok (.aload_n 0, 1) := by decide +kernel
theorem dX10_clear_1 : decode cX10_clear 1 = .ok (.iconst 0, 1) := by decide +kernel
theorem dX10_clear_2 : decode cX10_clear 2 = .ok (.putfield 102, 3) := by decide +kernel
theorem dX10_clear_5 : decode cX10_clear 5 = .ok (.aload_n 0, 1) := by decide +kernel
theorem dX10_clear_6 : decode cX10_clear 6 = .ok (.iconst 0, 1) := by decide +kernel
theorem dX10_clear_7 : decode cX10_clear 7 = .ok (.putfield 123, 3) := by decide +kernel
theorem dX10_clear_10 : decode cX10_clear 10 = .ok (.aload_n 0, 1) := by decide +kernel
theorem dX10_clear_11 : decode cX10_clear 11 = .ok (.iconst 0, 1) := by decide +kernel
theorem dX10_clear_12 : decode cX10_clear 12 = .ok (.putfield 133, 3) := by decide +kernel
theorem dX10_clear_15 : decode cX10_clear 15 = .ok (.aload_n 0, 1) := by decide +kernel
theorem dX10_clear_16 : decode cX10_clear 16 = .ok (.iconst 0, 1) := by decide +kernel
theorem dX10_clear_17 : decode cX10_clear 17 = .ok (.putfield 136, 3) := by decide +kernel
theorem dX10_clear_20 : decode cX10_clear 20 = .ok (.aload_n 0, 1) := by decide +kernel
theorem dX10_clear_21 : decode cX10_clear 21 = .ok (.iconst 1, 1) := by decide +kernel
theorem dX10_clear_22 : decode cX10_clear 22 = .ok (.putfield 28, 3) := by decide +kernel
theorem dX10_clear_25 : decode cX10_clear 25 = .ok (.aload_n 0, 1) := by decide +kernel
theorem dX10_clear_26 : decode cX10_clear 26 = .ok (.iconst 0, 1) := by decide +kernel
theorem dX10_clear_27 : decode cX10_clear 27 = .ok (.putfield 194, 3) := by decide +kernel
theorem dX10_clear_30 : decode cX10_clear 30 = .ok (.aload_n 0, 1) := by decide +kernel
theorem dX10_clear_31 : decode cX10_clear 31 = .ok (.iconst 0, 1) := by decide +kernel
theorem dX10_clear_32 : decode cX10_clear 32 = .ok (.putfield 175, 3) := by decide +kernel
theorem dX10_clear_35 : decode cX10_clear 35 = .ok (.aload_n 0, 1) := by decide +kernel
theorem dX10_clear_36 : decode cX10_clear 36 = .ok (.iconst 0, 1) := by decide +kernel
theorem dX10_clear_37 : decode cX10_clear 37 = .ok (.putfield 126, 3) := by decide +kernel
theorem dX10_clear_40 : decode cX10_clear 40 = .ok (.aload_n 0, 1) := by decide +kernel
theorem dX10_clear_41 : decode cX10_clear 41 = .ok (.iconst 0, 1) := by decide +kernel
theorem dX10_clear_42 : decode cX10_clear 42 = .ok (.putfield 210, 3) := by decide +kernel
theorem dX10_clear_45 : decode cX10_clear 45 = .ok (.aload_n 0, 1) := by decide +kernel
theorem dX10_clear_46 : decode cX10_clear 46 = .ok (.iconst 0, 1) := by decide +kernel
theorem dX10_clear_47 : decode cX10_clear 47 = .ok (.putfield 112, 3) := by decide +kernel
theorem dX10_clear_50 : decode cX10_clear 50 = .ok (.iload_n 1, 1) := by decide +kernel
theorem dX10_clear_51 : decode cX10_clear 51 = .ok (.ifCond .eq 8, 3) := by decide +kernel
theorem dX10_clear_54 : decode cX10_clear 54 = .ok (.aload_n 0, 1) := by decide +kernel
theorem dX10_clear_55 : decode cX10_clear 55 = .ok (.iconst 0, 1) := by decide +kernel
theorem dX10_clear_56 : decode cX10_clear 56 = .ok (.putfield 105, 3) := by decide +kernel
theorem dX10_clear_59 : decode cX10_clear 59 = .ok (.return_, 1) := by decide +kernel
theorem dX10_ready_0 : decode cX10_ready 0 = .ok (.aload_n 0, 1) := by decide +kernel
theorem dX10_ready_1 : decode cX10_ready 1 = .ok (.iconst 0, 1) := by decide +kernel
theorem dX10_ready_2 : decode cX10_ready 2 = .ok (.putfield 102, 3) := by decide +kernel
theorem dX10_ready_5 : decode cX10_ready 5 = .ok (.iload_n 1, 1) := by decide +kernel
theorem dX10_ready_6 : decode cX10_ready 6 = .ok (.ifCond .lt 11, 3) := by decide +kernel
theorem dX10_ready_9 : decode cX10_ready 9 = .ok (.iload_n 1, 1) := by decide +kernel
theorem dX10_ready_10 : decode cX10_ready 10 = .ok (.aload_n 0, 1) := by decide +kernel
theorem dX10_ready_11 : decode cX10_ready 11 = .ok (.getfield 133, 3) := by decide +kernel
theorem dX10_ready_14 : decode cX10_ready 14 = .ok (.if_icmp .lt 5, 3) := by decide +kernel
theorem dX10_ready_17 : decode cX10_ready 17 = .ok (.iconst (-1), 1) := by decide +kernel
theorem dX10_ready_18 : decode cX10_ready 18 = .ok (.ireturn, 1) := by decide +kernel
theorem dX10_ready_19 : decode cX10_ready 19 = .ok (.iload_n 2, 1) := by decide +kernel
theorem dX10_ready_20 : decode cX10_ready 20 = .ok (.ifCond .ne 12, 3) := by decide +kernel
theorem dX10_ready_23 : decode cX10_ready 23 = .ok (.aload_n 0, 1) := by decide +kernel
theorem dX10_ready_24 : decode cX10_ready 24 = .ok (.getfield 66, 3) := by decide +kernel
theorem dX10_ready_27 : decode cX10_ready 27 = .ok (.iload_n 1, 1) := by decide +kernel
theorem dX10_ready_28 : decode cX10_ready 28 = .ok (.iaload, 1) := by decide +kernel
theorem dX10_ready_29 : decode cX10_ready 29 = .ok (.goto 18, 3) := by decide +kernel
theorem dX10_ready_32 : decode cX10_ready 32 = .ok (.iload_n 2, 1) := by decide +kernel
theorem dX10_ready_33 : decode cX10_ready 33 = .ok (.iconst 1, 1) := by decide +kernel
theorem dX10_ready_34 : decode cX10_ready 34 = .ok (.if_icmp .ne 12, 3) := by decide +kernel
theorem dX10_ready_37 : decode cX10_ready 37 = .ok (.aload_n 0, 1) := by decide +kernel
theorem dX10_ready_38 : decode cX10_ready 38 = .ok (.getfield 69, 3) := by decide +kernel
theorem dX10_ready_41 : decode cX10_ready 41 = .ok (.iload_n 1, 1) := by decide +kernel
theorem dX10_ready_42 : decode cX10_ready 42 = .ok (.iaload, 1) := by decide +kernel
theorem dX10_ready_43 : decode cX10_ready 43 = .ok (.goto 4, 3) := by decide +kernel
theorem dX10_ready_46 : decode cX10_ready 46 = .ok (.iconst (-1), 1) := by decide +kernel
theorem dX10_ready_47 : decode cX10_ready 47 = .ok (.ireturn, 1) := by decide +kernel
theorem dX10_result_0 : decode cX10_result 0 = .ok (.aload_n 0, 1) := by decide +kernel
theorem dX10_result_1 : decode cX10_result 1 = .ok (.iload_n 1, 1) := by decide +kernel
theorem dX10_result_2 : decode cX10_result 2 = .ok (.ifCond .lt 20, 3) := by decide +kernel
theorem dX10_result_5 : decode cX10_result 5 = .ok (.iload_n 1, 1) := by decide +kernel
theorem dX10_result_6 : decode cX10_result 6 = .ok (.aload_n 0, 1) := by decide +kernel
theorem dX10_result_7 : decode cX10_result 7 = .ok (.getfield 175, 3) := by decide +kernel
theorem dX10_result_10 : decode cX10_result 10 = .ok (.if_icmp .ge 12, 3) := by decide +kernel
theorem dX10_result_13 : decode cX10_result 13 = .ok (.iload_n 2, 1) := by decide +kernel
theorem dX10_result_14 : decode cX10_result 14 = .ok (.ifCond .lt 8, 3) := by decide +kernel
theorem dX10_result_17 : decode cX10_result 17 = .ok (.iload_n 2, 1) := by decide +kernel
theorem dX10_result_18 : decode cX10_result 18 = .ok (.iconst 2, 1) := by decide +kernel
theorem dX10_result_19 : decode cX10_result 19 = .ok (.if_icmp .le 7, 3) := by decide +kernel
theorem dX10_result_22 : decode cX10_result 22 = .ok (.iconst 1, 1) := by decide +kernel
theorem dX10_result_23 : decode cX10_result 23 = .ok (.goto 4, 3) := by decide +kernel
theorem dX10_result_26 : decode cX10_result 26 = .ok (.iconst 0, 1) := by decide +kernel
theorem dX10_result_27 : decode cX10_result 27 = .ok (.putfield 102, 3) := by decide +kernel
theorem dX10_result_30 : decode cX10_result 30 = .ok (.aload_n 0, 1) := by decide +kernel
theorem dX10_result_31 : decode cX10_result 31 = .ok (.getfield 102, 3) := by decide +kernel
theorem dX10_result_34 : decode cX10_result 34 = .ok (.ifCond .le 5, 3) := by decide +kernel
theorem dX10_result_37 : decode cX10_result 37 = .ok (.lconst 0, 1) := by decide +kernel
theorem dX10_result_38 : decode cX10_result 38 = .ok (.lreturn, 1) := by decide +kernel
theorem dX10_result_39 : decode cX10_result 39 = .ok (.iload_n 2, 1) := by decide +kernel
theorem dX10_result_40 : decode cX10_result 40 = .ok (.ifCond .ne 13, 3) := by decide +kernel
theorem dX10_result_43 : decode cX10_result 43 = .ok (.aload_n 0, 1) := by decide +kernel
theorem dX10_result_44 : decode cX10_result 44 = .ok (.getfield 87, 3) := by decide +kernel
theorem dX10_result_47 : decode cX10_result 47 = .ok (.iload_n 1, 1) := by decide +kernel
theorem dX10_result_48 : decode cX10_result 48 = .ok (.iaload, 1) := by decide +kernel
theorem dX10_result_49 : decode cX10_result 49 = .ok (.i2l, 1) := by decide +kernel
theorem dX10_result_50 : decode cX10_result 50 = .ok (.goto 24, 3) := by decide +kernel
theorem dX10_result_53 : decode cX10_result 53 = .ok (.iload_n 2, 1) := by decide +kernel
theorem dX10_result_54 : decode cX10_result 54 = .ok (.iconst 1, 1) := by decide +kernel
theorem dX10_result_55 : decode cX10_result 55 = .ok (.if_icmp .ne 12, 3) := by decide +kernel
theorem dX10_result_58 : decode cX10_result 58 = .ok (.aload_n 0, 1) := by decide +kernel
theorem dX10_result_59 : decode cX10_result 59 = .ok (.getfield 90, 3) := by decide +kernel
theorem dX10_result_62 : decode cX10_result 62 = .ok (.iload_n 1, 1) := by decide +kernel
theorem dX10_result_63 : decode cX10_result 63 = .ok (.laload, 1) := by decide +kernel
theorem dX10_result_64 : decode cX10_result 64 = .ok (.goto 10, 3) := by decide +kernel
theorem dX10_result_67 : decode cX10_result 67 = .ok (.aload_n 0, 1) := by decide +kernel
theorem dX10_result_68 : decode cX10_result 68 = .ok (.getfield 93, 3) := by decide +kernel
theorem dX10_result_71 : decode cX10_result 71 = .ok (.iload_n 1, 1) := by decide +kernel
theorem dX10_result_72 : decode cX10_result 72 = .ok (.iaload, 1) := by decide +kernel
theorem dX10_result_73 : decode cX10_result 73 = .ok (.i2l, 1) := by decide +kernel
theorem dX10_result_74 : decode cX10_result 74 = .ok (.lreturn, 1) := by decide +kernel
theorem dX10_context_0 : decode cX10_context 0 = .ok (.aload_n 0, 1) := by decide +kernel
theorem dX10_context_1 : decode cX10_context 1 = .ok (.iload_n 1, 1) := by decide +kernel
theorem dX10_context_2 : decode cX10_context 2 = .ok (.ifCond .lt 20, 3) := by decide +kernel
theorem dX10_context_5 : decode cX10_context 5 = .ok (.iload_n 1, 1) := by decide +kernel
theorem dX10_context_6 : decode cX10_context 6 = .ok (.aload_n 0, 1) := by decide +kernel
theorem dX10_context_7 : decode cX10_context 7 = .ok (.getfield 28, 3) := by decide +kernel
theorem dX10_context_10 : decode cX10_context 10 = .ok (.if_icmp .ge 12, 3) := by decide +kernel
theorem dX10_context_13 : decode cX10_context 13 = .ok (.iload_n 2, 1) := by decide +kernel
theorem dX10_context_14 : decode cX10_context 14 = .ok (.ifCond .lt 8, 3) := by decide +kernel
theorem dX10_context_17 : decode cX10_context 17 = .ok (.iload_n 2, 1) := by decide +kernel
theorem dX10_context_18 : decode cX10_context 18 = .ok (.iconst 2, 1) := by decide +kernel
theorem dX10_context_19 : decode cX10_context 19 = .ok (.if_icmp .le 7, 3) := by decide +kernel
theorem dX10_context_22 : decode cX10_context 22 = .ok (.iconst 1, 1) := by decide +kernel
theorem dX10_context_23 : decode cX10_context 23 = .ok (.goto 4, 3) := by decide +kernel
theorem dX10_context_26 : decode cX10_context 26 = .ok (.iconst 0, 1) := by decide +kernel
theorem dX10_context_27 : decode cX10_context 27 = .ok (.putfield 102, 3) := by decide +kernel
theorem dX10_context_30 : decode cX10_context 30 = .ok (.aload_n 0, 1) := by decide +kernel
theorem dX10_context_31 : decode cX10_context 31 = .ok (.getfield 102, 3) := by decide +kernel
theorem dX10_context_34 : decode cX10_context 34 = .ok (.ifCond .le 5, 3) := by decide +kernel
theorem dX10_context_37 : decode cX10_context 37 = .ok (.iconst 0, 1) := by decide +kernel
theorem dX10_context_38 : decode cX10_context 38 = .ok (.ireturn, 1) := by decide +kernel
theorem dX10_context_39 : decode cX10_context 39 = .ok (.iload_n 2, 1) := by decide +kernel
theorem dX10_context_40 : decode cX10_context 40 = .ok (.ifCond .ne 12, 3) := by decide +kernel
theorem dX10_context_43 : decode cX10_context 43 = .ok (.aload_n 0, 1) := by decide +kernel
theorem dX10_context_44 : decode cX10_context 44 = .ok (.getfield 32, 3) := by decide +kernel
theorem dX10_context_47 : decode cX10_context 47 = .ok (.iload_n 1, 1) := by decide +kernel
theorem dX10_context_48 : decode cX10_context 48 = .ok (.iaload, 1) := by decide +kernel
theorem dX10_context_49 : decode cX10_context 49 = .ok (.goto 23, 3) := by decide +kernel
theorem dX10_context_52 : decode cX10_context 52 = .ok (.iload_n 2, 1) := by decide +kernel
theorem dX10_context_53 : decode cX10_context 53 = .ok (.iconst 1, 1) := by decide +kernel
theorem dX10_context_54 : decode cX10_context 54 = .ok (.if_icmp .ne 12, 3) := by decide +kernel
theorem dX10_context_57 : decode cX10_context 57 = .ok (.aload_n 0, 1) := by decide +kernel
theorem dX10_context_58 : decode cX10_context 58 = .ok (.getfield 35, 3) := by decide +kernel
theorem dX10_context_61 : decode cX10_context 61 = .ok (.iload_n 1, 1) := by decide +kernel
theorem dX10_context_62 : decode cX10_context 62 = .ok (.iaload, 1) := by decide +kernel
theorem dX10_context_63 : decode cX10_context 63 = .ok (.goto 9, 3) := by decide +kernel
theorem dX10_context_66 : decode cX10_context 66 = .ok (.aload_n 0, 1) := by decide +kernel
theorem dX10_context_67 : decode cX10_context 67 = .ok (.getfield 38, 3) := by decide +kernel
theorem dX10_context_70 : decode cX10_context 70 = .ok (.iload_n 1, 1) := by decide +kernel
theorem dX10_context_71 : decode cX10_context 71 = .ok (.iaload, 1) := by decide +kernel
theorem dX10_context_72 : decode cX10_context 72 = .ok (.ireturn, 1) := by decide +kernel
theorem dX10_cell_0 : decode cX10_cell 0 = .ok (.aload_n 0, 1) := by decide +kernel
theorem dX10_cell_1 : decode cX10_cell 1 = .ok (.iload_n 1, 1) := by decide +kernel
theorem dX10_cell_2 : decode cX10_cell 2 = .ok (.ifCond .lt 34, 3) := by decide +kernel
theorem dX10_cell_5 : decode cX10_cell 5 = .ok (.iload_n 1, 1) := by decide +kernel
theorem dX10_cell_6 : decode cX10_cell 6 = .ok (.aload_n 0, 1) := by decide +kernel
theorem dX10_cell_7 : decode cX10_cell 7 = .ok (.getfield 194, 3) := by decide +kernel
theorem dX10_cell_10 : decode cX10_cell 10 = .ok (.if_icmp .ge 26, 3) := by decide +kernel
theorem dX10_cell_13 : decode cX10_cell 13 = .ok (.iload_n 2, 1) := by decide +kernel
theorem dX10_cell_14 : decode cX10_cell 14 = .ok (.ifCond .lt 22, 3) := by decide +kernel
theorem dX10_cell_17 : decode cX10_cell 17 = .ok (.iload_n 2, 1) := by decide +kernel
theorem dX10_cell_18 : decode cX10_cell 18 = .ok (.aload_n 0, 1) := by decide +kernel
theorem dX10_cell_19 : decode cX10_cell 19 = .ok (.getfield 41, 3) := by decide +kernel
theorem dX10_cell_22 : decode cX10_cell 22 = .ok (.iload_n 1, 1) := by decide +kernel
theorem dX10_cell_23 : decode cX10_cell 23 = .ok (.iaload, 1) := by decide +kernel
theorem dX10_cell_24 : decode cX10_cell 24 = .ok (.if_icmp .ge 12, 3) := by decide +kernel
theorem dX10_cell_27 : decode cX10_cell 27 = .ok (.iload_n 3, 1) := by decide +kernel
theorem dX10_cell_28 : decode cX10_cell 28 = .ok (.ifCond .lt 8, 3) := by decide +kernel
theorem dX10_cell_31 : decode cX10_cell 31 = .ok (.iload_n 3, 1) := by decide +kernel
theorem dX10_cell_32 : decode cX10_cell 32 = .ok (.iconst 2, 1) := by decide +kernel
theorem dX10_cell_33 : decode cX10_cell 33 = .ok (.if_icmp .le 7, 3) := by decide +kernel
theorem dX10_cell_36 : decode cX10_cell 36 = .ok (.iconst 1, 1) := by decide +kernel
theorem dX10_cell_37 : decode cX10_cell 37 = .ok (.goto 4, 3) := by decide +kernel
theorem dX10_cell_40 : decode cX10_cell 40 = .ok (.iconst 0, 1) := by decide +kernel
theorem dX10_cell_41 : decode cX10_cell 41 = .ok (.putfield 102, 3) := by decide +kernel
theorem dX10_cell_44 : decode cX10_cell 44 = .ok (.aload_n 0, 1) := by decide +kernel
theorem dX10_cell_45 : decode cX10_cell 45 = .ok (.getfield 102, 3) := by decide +kernel
theorem dX10_cell_48 : decode cX10_cell 48 = .ok (.ifCond .le 5, 3) := by decide +kernel
theorem dX10_cell_51 : decode cX10_cell 51 = .ok (.lconst 0, 1) := by decide +kernel
theorem dX10_cell_52 : decode cX10_cell 52 = .ok (.lreturn, 1) := by decide +kernel
theorem dX10_cell_53 : decode cX10_cell 53 = .ok (.bipush 8, 2) := by decide +kernel
theorem dX10_cell_55 : decode cX10_cell 55 = .ok (.iload_n 1, 1) := by decide +kernel
theorem dX10_cell_56 : decode cX10_cell 56 = .ok (.imul, 1) := by decide +kernel
theorem dX10_cell_57 : decode cX10_cell 57 = .ok (.iload_n 2, 1) := by decide +kernel
theorem dX10_cell_58 : decode cX10_cell 58 = .ok (.iadd, 1) := by decide +kernel
theorem dX10_cell_59 : decode cX10_cell 59 = .ok (.istore 4, 2) := by decide +kernel
theorem dX10_cell_61 : decode cX10_cell 61 = .ok (.iconst 0, 1) := by decide +kernel
theorem dX10_cell_62 : decode cX10_cell 62 = .ok (.istore 5, 2) := by decide +kernel
theorem dX10_cell_64 : decode cX10_cell 64 = .ok (.iconst 0, 1) := by decide +kernel
theorem dX10_cell_65 : decode cX10_cell 65 = .ok (.istore 6, 2) := by decide +kernel
theorem dX10_cell_67 : decode cX10_cell 67 = .ok (.iload 6, 2) := by decide +kernel
theorem dX10_cell_69 : decode cX10_cell 69 = .ok (.aload_n 0, 1) := by decide +kernel
theorem dX10_cell_70 : decode cX10_cell 70 = .ok (.getfield 136, 3) := by decide +kernel
theorem dX10_cell_73 : decode cX10_cell 73 = .ok (.if_icmp .ge 31, 3) := by decide +kernel
theorem dX10_cell_76 : decode cX10_cell 76 = .ok (.iload 5, 2) := by decide +kernel
theorem dX10_cell_78 : decode cX10_cell 78 = .ok (.aload_n 0, 1) := by decide +kernel
theorem dX10_cell_79 : decode cX10_cell 79 = .ok (.getfield 84, 3) := by decide +kernel
theorem dX10_cell_82 : decode cX10_cell 82 = .ok (.iload 6, 2) := by decide +kernel
theorem dX10_cell_84 : decode cX10_cell 84 = .ok (.iaload, 1) := by decide +kernel
theorem dX10_cell_85 : decode cX10_cell 85 = .ok (.iload 4, 2) := by decide +kernel
theorem dX10_cell_87 : decode cX10_cell 87 = .ok (.if_icmp .ne 7, 3) := by decide +kernel
theorem dX10_cell_90 : decode cX10_cell 90 = .ok (.iconst 1, 1) := by decide +kernel
theorem dX10_cell_91 : decode cX10_cell 91 = .ok (.goto 4, 3) := by decide +kernel
theorem dX10_cell_94 : decode cX10_cell 94 = .ok (.iconst 0, 1) := by decide +kernel
theorem dX10_cell_95 : decode cX10_cell 95 = .ok (.iadd, 1) := by decide +kernel
theorem dX10_cell_96 : decode cX10_cell 96 = .ok (.istore 5, 2) := by decide +kernel
theorem dX10_cell_98 : decode cX10_cell 98 = .ok (.iinc 6 1, 3) := by decide +kernel
theorem dX10_cell_101 : decode cX10_cell 101 = .ok (.goto (-34), 3) := by decide +kernel
theorem dX10_cell_104 : decode cX10_cell 104 = .ok (.iload_n 3, 1) := by decide +kernel
theorem dX10_cell_105 : decode cX10_cell 105 = .ok (.ifCond .ne 14, 3) := by decide +kernel
theorem dX10_cell_108 : decode cX10_cell 108 = .ok (.aload_n 0, 1) := by decide +kernel
theorem dX10_cell_109 : decode cX10_cell 109 = .ok (.getfield 44, 3) := by decide +kernel
theorem dX10_cell_112 : decode cX10_cell 112 = .ok (.iload 4, 2) := by decide +kernel
theorem dX10_cell_114 : decode cX10_cell 114 = .ok (.iaload, 1) := by decide +kernel
theorem dX10_cell_115 : decode cX10_cell 115 = .ok (.i2l, 1) := by decide +kernel
theorem dX10_cell_116 : decode cX10_cell 116 = .ok (.goto 21, 3) := by decide +kernel
theorem dX10_cell_119 : decode cX10_cell 119 = .ok (.iload_n 3, 1) := by decide +kernel
theorem dX10_cell_120 : decode cX10_cell 120 = .ok (.iconst 1, 1) := by decide +kernel
theorem dX10_cell_121 : decode cX10_cell 121 = .ok (.if_icmp .ne 13, 3) := by decide +kernel
theorem dX10_cell_124 : decode cX10_cell 124 = .ok (.aload_n 0, 1) := by decide +kernel
theorem dX10_cell_125 : decode cX10_cell 125 = .ok (.getfield 47, 3) := by decide +kernel
theorem dX10_cell_128 : decode cX10_cell 128 = .ok (.iload 4, 2) := by decide +kernel
theorem dX10_cell_130 : decode cX10_cell 130 = .ok (.laload, 1) := by decide +kernel
theorem dX10_cell_131 : decode cX10_cell 131 = .ok (.goto 6, 3) := by decide +kernel
theorem dX10_cell_134 : decode cX10_cell 134 = .ok (.iload 5, 2) := by decide +kernel
theorem dX10_cell_136 : decode cX10_cell 136 = .ok (.i2l, 1) := by decide +kernel
theorem dX10_cell_137 : decode cX10_cell 137 = .ok (.lreturn, 1) := by decide +kernel
theorem dX10_waiting_0 : decode cX10_waiting 0 = .ok (.aload_n 0, 1) := by decide +kernel
theorem dX10_waiting_1 : decode cX10_waiting 1 = .ok (.iconst 0, 1) := by decide +kernel
theorem dX10_waiting_2 : decode cX10_waiting 2 = .ok (.putfield 102, 3) := by decide +kernel
theorem dX10_waiting_5 : decode cX10_waiting 5 = .ok (.aload_n 0, 1) := by decide +kernel
theorem dX10_waiting_6 : decode cX10_waiting 6 = .ok (.iload_n 1, 1) := by decide +kernel
theorem dX10_waiting_7 : decode cX10_waiting 7 = .ok (.invokevirtual 116, 3) := by decide +kernel
theorem dX10_waiting_10 : decode cX10_waiting 10 = .ok (.ifCond .eq 15, 3) := by decide +kernel
theorem dX10_waiting_13 : decode cX10_waiting 13 = .ok (.iload_n 2, 1) := by decide +kernel
theorem dX10_waiting_14 : decode cX10_waiting 14 = .ok (.ifCond .lt 11, 3) := by decide +kernel
theorem dX10_waiting_17 : decode cX10_waiting 17 = .ok (.iload_n 2, 1) := by decide +kernel
theorem dX10_waiting_18 : decode cX10_waiting 18 = .ok (.aload_n 0, 1) := by decide +kernel
theorem dX10_waiting_19 : decode cX10_waiting 19 = .ok (.getfield 28, 3) := by decide +kernel
theorem dX10_waiting_22 : decode cX10_waiting 22 = .ok (.if_icmp .lt 5, 3) := by decide +kernel
theorem dX10_waiting_25 : decode cX10_waiting 25 = .ok (.iconst (-1), 1) := by decide +kernel
theorem dX10_waiting_26 : decode cX10_waiting 26 = .ok (.ireturn, 1) := by decide +kernel
theorem dX10_waiting_27 : decode cX10_waiting 27 = .ok (.iconst 0, 1) := by decide +kernel
theorem dX10_waiting_28 : decode cX10_waiting 28 = .ok (.istore_n 3, 1) := by decide +kernel
theorem dX10_waiting_29 : decode cX10_waiting 29 = .ok (.iconst 0, 1) := by decide +kernel
theorem dX10_waiting_30 : decode cX10_waiting 30 = .ok (.istore 4, 2) := by decide +kernel
theorem dX10_waiting_32 : decode cX10_waiting 32 = .ok (.iload 4, 2) := by decide +kernel
theorem dX10_waiting_34 : decode cX10_waiting 34 = .ok (.aload_n 0, 1) := by decide +kernel
theorem dX10_waiting_35 : decode cX10_waiting 35 = .ok (.getfield 123, 3) := by decide +kernel
theorem dX10_waiting_38 : decode cX10_waiting 38 = .ok (.if_icmp .ge 39, 3) := by decide +kernel
theorem dX10_waiting_41 : decode cX10_waiting 41 = .ok (.iload_n 3, 1) := by decide +kernel
theorem dX10_waiting_42 : decode cX10_waiting 42 = .ok (.aload_n 0, 1) := by decide +kernel
theorem dX10_waiting_43 : decode cX10_waiting 43 = .ok (.getfield 51, 3) := by decide +kernel
theorem dX10_waiting_46 : decode cX10_waiting 46 = .ok (.iload 4, 2) := by decide +kernel
theorem dX10_waiting_48 : decode cX10_waiting 48 = .ok (.iaload, 1) := by decide +kernel
theorem dX10_waiting_49 : decode cX10_waiting 49 = .ok (.iload_n 1, 1) := by decide +kernel
theorem dX10_waiting_50 : decode cX10_waiting 50 = .ok (.if_icmp .ne 18, 3) := by decide +kernel
theorem dX10_waiting_53 : decode cX10_waiting 53 = .ok (.aload_n 0, 1) := by decide +kernel
theorem dX10_waiting_54 : decode cX10_waiting 54 = .ok (.getfield 57, 3) := by decide +kernel
theorem dX10_waiting_57 : decode cX10_waiting 57 = .ok (.iload 4, 2) := by decide +kernel
theorem dX10_waiting_59 : decode cX10_waiting 59 = .ok (.iaload, 1) := by decide +kernel
theorem dX10_waiting_60 : decode cX10_waiting 60 = .ok (.iload_n 2, 1) := by decide +kernel
theorem dX10_waiting_61 : decode cX10_waiting 61 = .ok (.if_icmp .ne 7, 3) := by decide +kernel
theorem dX10_waiting_64 : decode cX10_waiting 64 = .ok (.iconst 1, 1) := by decide +kernel
theorem dX10_waiting_65 : decode cX10_waiting 65 = .ok (.goto 4, 3) := by decide +kernel
theorem dX10_waiting_68 : decode cX10_waiting 68 = .ok (.iconst 0, 1) := by decide +kernel
theorem dX10_waiting_69 : decode cX10_waiting 69 = .ok (.iadd, 1) := by decide +kernel
theorem dX10_waiting_70 : decode cX10_waiting 70 = .ok (.istore_n 3, 1) := by decide +kernel
theorem dX10_waiting_71 : decode cX10_waiting 71 = .ok (.iinc 4 1, 3) := by decide +kernel
theorem dX10_waiting_74 : decode cX10_waiting 74 = .ok (.goto (-42), 3) := by decide +kernel
theorem dX10_waiting_77 : decode cX10_waiting 77 = .ok (.iload_n 3, 1) := by decide +kernel
theorem dX10_waiting_78 : decode cX10_waiting 78 = .ok (.ireturn, 1) := by decide +kernel
theorem dX10_total_0 : decode cX10_total 0 = .ok (.aload_n 0, 1) := by decide +kernel
theorem dX10_total_1 : decode cX10_total 1 = .ok (.iconst 0, 1) := by decide +kernel
theorem dX10_total_2 : decode cX10_total 2 = .ok (.putfield 102, 3) := by decide +kernel
theorem dX10_total_5 : decode cX10_total 5 = .ok (.iload_n 1, 1) := by decide +kernel
theorem dX10_total_6 : decode cX10_total 6 = .ok (.tableswitch 104 0 9 #[54, 59, 64, 69, 74, 79, 84, 89, 94, 99], 54) := by decide +kernel
theorem dX10_total_60 : decode cX10_total 60 = .ok (.aload_n 0, 1) := by decide +kernel
theorem dX10_total_61 : decode cX10_total 61 = .ok (.getfield 105, 3) := by decide +kernel
theorem dX10_total_64 : decode cX10_total 64 = .ok (.ireturn, 1) := by decide +kernel
theorem dX10_total_65 : decode cX10_total 65 = .ok (.aload_n 0, 1) := by decide +kernel
theorem dX10_total_66 : decode cX10_total 66 = .ok (.getfield 133, 3) := by decide +kernel
theorem dX10_total_69 : decode cX10_total 69 = .ok (.ireturn, 1) := by decide +kernel
theorem dX10_total_70 : decode cX10_total 70 = .ok (.aload_n 0, 1) := by decide +kernel
theorem dX10_total_71 : decode cX10_total 71 = .ok (.getfield 123, 3) := by decide +kernel
theorem dX10_total_74 : decode cX10_total 74 = .ok (.ireturn, 1) := by decide +kernel
theorem dX10_total_75 : decode cX10_total 75 = .ok (.aload_n 0, 1) := by decide +kernel
theorem dX10_total_76 : decode cX10_total 76 = .ok (.getfield 175, 3) := by decide +kernel
theorem dX10_total_79 : decode cX10_total 79 = .ok (.ireturn, 1) := by decide +kernel
theorem dX10_total_80 : decode cX10_total 80 = .ok (.aload_n 0, 1) := by decide +kernel
theorem dX10_total_81 : decode cX10_total 81 = .ok (.getfield 28, 3) := by decide +kernel
theorem dX10_total_84 : decode cX10_total 84 = .ok (.ireturn, 1) := by decide +kernel
theorem dX10_total_85 : decode cX10_total 85 = .ok (.aload_n 0, 1) := by decide +kernel
theorem dX10_total_86 : decode cX10_total 86 = .ok (.getfield 194, 3) := by decide +kernel
theorem dX10_total_89 : decode cX10_total 89 = .ok (.ireturn, 1) := by decide +kernel
theorem dX10_total_90 : decode cX10_total 90 = .ok (.aload_n 0, 1) := by decide +kernel
theorem dX10_total_91 : decode cX10_total 91 = .ok (.getfield 136, 3) := by decide +kernel
theorem dX10_total_94 : decode cX10_total 94 = .ok (.ireturn, 1) := by decide +kernel
theorem dX10_total_95 : decode cX10_total 95 = .ok (.aload_n 0, 1) := by decide +kernel
theorem dX10_total_96 : decode cX10_total 96 = .ok (.getfield 126, 3) := by decide +kernel
theorem dX10_total_99 : decode cX10_total 99 = .ok (.ireturn, 1) := by decide +kernel
theorem dX10_total_100 : decode cX10_total 100 = .ok (.aload_n 0, 1) := by decide +kernel
theorem dX10_total_101 : decode cX10_total 101 = .ok (.getfield 210, 3) := by decide +kernel
theorem dX10_total_104 : decode cX10_total 104 = .ok (.ireturn, 1) := by decide +kernel
theorem dX10_total_105 : decode cX10_total 105 = .ok (.aload_n 0, 1) := by decide +kernel
theorem dX10_total_106 : decode cX10_total 106 = .ok (.getfield 203, 3) := by decide +kernel
theorem dX10_total_109 : decode cX10_total 109 = .ok (.ireturn, 1) := by decide +kernel
theorem dX10_total_110 : decode cX10_total 110 = .ok (.iconst (-1), 1) := by decide +kernel
theorem dX10_total_111 : decode cX10_total 111 = .ok (.ireturn, 1) := by decide +kernel
theorem dJ9_max_7cf53_0 : decode cJ9_max_7cf53 0 = .ok (.iload_n 0, 1) := by decide +kernel
theorem dJ9_max_7cf53_1 : decode cJ9_max_7cf53 1 = .ok (.iload_n 1, 1) := by decide +kernel
theorem dJ9_max_7cf53_2 : decode cJ9_max_7cf53 2 = .ok (.if_icmp .lt 7, 3) := by decide +kernel
theorem dJ9_max_7cf53_5 : decode cJ9_max_7cf53 5 = .ok (.iload_n 0, 1) := by decide +kernel
theorem dJ9_max_7cf53_6 : decode cJ9_max_7cf53 6 = .ok (.goto 4, 3) := by decide +kernel
theorem dJ9_max_7cf53_9 : decode cJ9_max_7cf53 9 = .ok (.iload_n 1, 1) := by decide +kernel
theorem dJ9_max_7cf53_10 : decode cJ9_max_7cf53 10 = .ok (.ireturn, 1) := by decide +kernel
theorem dJ9_min_7cf53_0 : decode cJ9_min_7cf53 0 = .ok (.iload_n 0, 1) := by decide +kernel
theorem dJ9_min_7cf53_1 : decode cJ9_min_7cf53 1 = .ok (.iload_n 1, 1) := by decide +kernel
theorem dJ9_min_7cf53_2 : decode cJ9_min_7cf53 2 = .ok (.if_icmp .gt 7, 3) := by decide +kernel
theorem dJ9_min_7cf53_5 : decode cJ9_min_7cf53 5 = .ok (.iload_n 0, 1) := by decide +kernel
theorem dJ9_min_7cf53_6 : decode cJ9_min_7cf53 6 = .ok (.goto 4, 3) := by decide +kernel
theorem dJ9_min_7cf53_9 : decode cJ9_min_7cf53 9 = .ok (.iload_n 1, 1) := by decide +kernel
theorem dJ9_min_7cf53_10 : decode cJ9_min_7cf53 10 = .ok (.ireturn, 1) := by decide +kernel
theorem dJxa1e45_init_da8c8_0 : decode cJxa1e45_init_da8c8 0 = .ok (.aload_n 0, 1) := by decide +kernel
theorem dJxa1e45_init_da8c8_1 : decode cJxa1e45_init_da8c8 1 = .ok (.invokespecial 1, 3) := by decide +kernel
theorem dJxa1e45_init_da8c8_4 : decode cJxa1e45_init_da8c8 4 = .ok (.return_, 1) := by decide +kernel
theorem dJxc12de_init_da8c8_0 : decode cJxc12de_init_da8c8 0 = .ok (.aload_n 0, 1) := by decide +kernel
theorem dJxc12de_init_da8c8_1 : decode cJxc12de_init_da8c8 1 = .ok (.invokespecial 1, 3) := by decide +kernel
theorem dJxc12de_init_da8c8_4 : decode cJxc12de_init_da8c8 4 = .ok (.aload_n 0, 1) := by decide +kernel
theorem dJxc12de_init_da8c8_5 : decode cJxc12de_init_da8c8 5 = .ok (.iconst 0, 1) := by decide +kernel
theorem dJxc12de_init_da8c8_6 : decode cJxc12de_init_da8c8 6 = .ok (.putfield 7, 3) := by decide +kernel
theorem dJxc12de_init_da8c8_9 : decode cJxc12de_init_da8c8 9 = .ok (.return_, 1) := by decide +kernel
theorem dJx4a65c_init_da8c8_0 : decode cJx4a65c_init_da8c8 0 = .ok (.aload_n 0, 1) := by decide +kernel
theorem dJx4a65c_init_da8c8_1 : decode cJx4a65c_init_da8c8 1 = .ok (.invokespecial 1, 3) := by decide +kernel
theorem dJx4a65c_init_da8c8_4 : decode cJx4a65c_init_da8c8 4 = .ok (.aload_n 0, 1) := by decide +kernel
theorem dJx4a65c_init_da8c8_5 : decode cJx4a65c_init_da8c8 5 = .ok (.getstatic 39, 3) := by decide +kernel
theorem dJx4a65c_init_da8c8_8 : decode cJx4a65c_init_da8c8 8 = .ok (.putfield 9, 3) := by decide +kernel
theorem dJx4a65c_init_da8c8_11 : decode cJx4a65c_init_da8c8 11 = .ok (.return_, 1) := by decide +kernel
theorem dJx4a65c_grow_92f84_0 : decode cJx4a65c_grow_92f84 0 = .ok (.aload_n 0, 1) := by decide +kernel
theorem dJx4a65c_grow_92f84_1 : decode cJx4a65c_grow_92f84 1 = .ok (.getfield 9, 3) := by decide +kernel
theorem dJx4a65c_grow_92f84_4 : decode cJx4a65c_grow_92f84 4 = .ok (.arraylength, 1) := by decide +kernel
theorem dJx4a65c_grow_92f84_5 : decode cJx4a65c_grow_92f84 5 = .ok (.istore_n 2, 1) := by decide +kernel
theorem dJx4a65c_grow_92f84_6 : decode cJx4a65c_grow_92f84 6 = .ok (.iload_n 2, 1) := by decide +kernel
theorem dJx4a65c_grow_92f84_7 : decode cJx4a65c_grow_92f84 7 = .ok (.ifCond .gt 13, 3) := by decide +kernel
theorem dJx4a65c_grow_92f84_10 : decode cJx4a65c_grow_92f84 10 = .ok (.aload_n 0, 1) := by decide +kernel
theorem dJx4a65c_grow_92f84_11 : decode cJx4a65c_grow_92f84 11 = .ok (.getfield 9, 3) := by decide +kernel
theorem dJx4a65c_grow_92f84_14 : decode cJx4a65c_grow_92f84 14 = .ok (.getstatic 39, 3) := by decide +kernel
theorem dJx4a65c_grow_92f84_17 : decode cJx4a65c_grow_92f84 17 = .ok (.if_acmp .eq 28, 3) := by decide +kernel
theorem dJx4a65c_grow_92f84_20 : decode cJx4a65c_grow_92f84 20 = .ok (.iload_n 2, 1) := by decide +kernel
theorem dJx4a65c_grow_92f84_21 : decode cJx4a65c_grow_92f84 21 = .ok (.iload_n 1, 1) := by decide +kernel
theorem dJx4a65c_grow_92f84_22 : decode cJx4a65c_grow_92f84 22 = .ok (.iload_n 2, 1) := by decide +kernel
theorem dJx4a65c_grow_92f84_23 : decode cJx4a65c_grow_92f84 23 = .ok (.isub, 1) := by decide +kernel
theorem dJx4a65c_grow_92f84_24 : decode cJx4a65c_grow_92f84 24 = .ok (.iload_n 2, 1) := by decide +kernel
theorem dJx4a65c_grow_92f84_25 : decode cJx4a65c_grow_92f84 25 = .ok (.iconst 1, 1) := by decide +kernel
theorem dJx4a65c_grow_92f84_26 : decode cJx4a65c_grow_92f84 26 = .ok (.ishr, 1) := by decide +kernel
theorem dJx4a65c_grow_92f84_27 : decode cJx4a65c_grow_92f84 27 = .ok (.invokestatic 73, 3) := by decide +kernel
theorem dJx4a65c_grow_92f84_30 : decode cJx4a65c_grow_92f84 30 = .ok (.istore_n 3, 1) := by decide +kernel
theorem dJx4a65c_grow_92f84_31 : decode cJx4a65c_grow_92f84 31 = .ok (.aload_n 0, 1) := by decide +kernel
theorem dJx4a65c_grow_92f84_32 : decode cJx4a65c_grow_92f84 32 = .ok (.aload_n 0, 1) := by decide +kernel
theorem dJx4a65c_grow_92f84_33 : decode cJx4a65c_grow_92f84 33 = .ok (.getfield 9, 3) := by decide +kernel
theorem dJx4a65c_grow_92f84_36 : decode cJx4a65c_grow_92f84 36 = .ok (.iload_n 3, 1) := by decide +kernel
theorem dJx4a65c_grow_92f84_37 : decode cJx4a65c_grow_92f84 37 = .ok (.invokestatic 66, 3) := by decide +kernel
theorem dJx4a65c_grow_92f84_40 : decode cJx4a65c_grow_92f84 40 = .ok (.dup_x1, 1) := by decide +kernel
theorem dJx4a65c_grow_92f84_41 : decode cJx4a65c_grow_92f84 41 = .ok (.putfield 9, 3) := by decide +kernel
theorem dJx4a65c_grow_92f84_44 : decode cJx4a65c_grow_92f84 44 = .ok (.areturn, 1) := by decide +kernel
theorem dJx4a65c_grow_92f84_45 : decode cJx4a65c_grow_92f84 45 = .ok (.aload_n 0, 1) := by decide +kernel
theorem dJx4a65c_grow_92f84_46 : decode cJx4a65c_grow_92f84 46 = .ok (.bipush 10, 2) := by decide +kernel
theorem dJx4a65c_grow_92f84_48 : decode cJx4a65c_grow_92f84 48 = .ok (.iload_n 1, 1) := by decide +kernel
theorem dJx4a65c_grow_92f84_49 : decode cJx4a65c_grow_92f84 49 = .ok (.invokestatic 79, 3) := by decide +kernel
theorem dJx4a65c_grow_92f84_52 : decode cJx4a65c_grow_92f84 52 = .ok (.anewarray 7, 3) := by decide +kernel
theorem dJx4a65c_grow_92f84_55 : decode cJx4a65c_grow_92f84 55 = .ok (.dup_x1, 1) := by decide +kernel
theorem dJx4a65c_grow_92f84_56 : decode cJx4a65c_grow_92f84 56 = .ok (.putfield 9, 3) := by decide +kernel
theorem dJx4a65c_grow_92f84_59 : decode cJx4a65c_grow_92f84 59 = .ok (.areturn, 1) := by decide +kernel
theorem dJx4a65c_grow_d5877_0 : decode cJx4a65c_grow_d5877 0 = .ok (.aload_n 0, 1) := by decide +kernel
theorem dJx4a65c_grow_d5877_1 : decode cJx4a65c_grow_d5877 1 = .ok (.aload_n 0, 1) := by decide +kernel
theorem dJx4a65c_grow_d5877_2 : decode cJx4a65c_grow_d5877 2 = .ok (.getfield 48, 3) := by decide +kernel
theorem dJx4a65c_grow_d5877_5 : decode cJx4a65c_grow_d5877 5 = .ok (.iconst 1, 1) := by decide +kernel
theorem dJx4a65c_grow_d5877_6 : decode cJx4a65c_grow_d5877 6 = .ok (.iadd, 1) := by decide +kernel
theorem dJx4a65c_grow_d5877_7 : decode cJx4a65c_grow_d5877 7 = .ok (.invokevirtual 69, 3) := by decide +kernel
theorem dJx4a65c_grow_d5877_10 : decode cJx4a65c_grow_d5877 10 = .ok (.areturn, 1) := by decide +kernel
theorem dJx4a65c_size_8abf5_0 : decode cJx4a65c_size_8abf5 0 = .ok (.aload_n 0, 1) := by decide +kernel
theorem dJx4a65c_size_8abf5_1 : decode cJx4a65c_size_8abf5 1 = .ok (.getfield 48, 3) := by decide +kernel
theorem dJx4a65c_size_8abf5_4 : decode cJx4a65c_size_8abf5 4 = .ok (.ireturn, 1) := by decide +kernel
theorem dJx4a65c_isEmpty_aae02_0 : decode cJx4a65c_isEmpty_aae02 0 = .ok (.aload_n 0, 1) := by decide +kernel
theorem dJx4a65c_isEmpty_aae02_1 : decode cJx4a65c_isEmpty_aae02 1 = .ok (.getfield 48, 3) := by decide +kernel
theorem dJx4a65c_isEmpty_aae02_4 : decode cJx4a65c_isEmpty_aae02 4 = .ok (.ifCond .ne 7, 3) := by decide +kernel
theorem dJx4a65c_isEmpty_aae02_7 : decode cJx4a65c_isEmpty_aae02 7 = .ok (.iconst 1, 1) := by decide +kernel
theorem dJx4a65c_isEmpty_aae02_8 : decode cJx4a65c_isEmpty_aae02 8 = .ok (.goto 4, 3) := by decide +kernel
theorem dJx4a65c_isEmpty_aae02_11 : decode cJx4a65c_isEmpty_aae02 11 = .ok (.iconst 0, 1) := by decide +kernel
theorem dJx4a65c_isEmpty_aae02_12 : decode cJx4a65c_isEmpty_aae02 12 = .ok (.ireturn, 1) := by decide +kernel
theorem dJx4a65c_elementData_915e3_0 : decode cJx4a65c_elementData_915e3 0 = .ok (.aload_n 0, 1) := by decide +kernel
theorem dJx4a65c_elementData_915e3_1 : decode cJx4a65c_elementData_915e3 1 = .ok (.getfield 9, 3) := by decide +kernel
theorem dJx4a65c_elementData_915e3_4 : decode cJx4a65c_elementData_915e3 4 = .ok (.iload_n 1, 1) := by decide +kernel
theorem dJx4a65c_elementData_915e3_5 : decode cJx4a65c_elementData_915e3 5 = .ok (.aaload, 1) := by decide +kernel
theorem dJx4a65c_elementData_915e3_6 : decode cJx4a65c_elementData_915e3 6 = .ok (.areturn, 1) := by decide +kernel
theorem dJx4a65c_get_915e3_0 : decode cJx4a65c_get_915e3 0 = .ok (.iload_n 1, 1) := by decide +kernel
theorem dJx4a65c_get_915e3_1 : decode cJx4a65c_get_915e3 1 = .ok (.aload_n 0, 1) := by decide +kernel
theorem dJx4a65c_get_915e3_2 : decode cJx4a65c_get_915e3 2 = .ok (.getfield 48, 3) := by decide +kernel
theorem dJx4a65c_get_915e3_5 : decode cJx4a65c_get_915e3 5 = .ok (.invokestatic 118, 3) := by decide +kernel
theorem dJx4a65c_get_915e3_8 : decode cJx4a65c_get_915e3 8 = .ok (.pop, 1) := by decide +kernel
theorem dJx4a65c_get_915e3_9 : decode cJx4a65c_get_915e3 9 = .ok (.aload_n 0, 1) := by decide +kernel
theorem dJx4a65c_get_915e3_10 : decode cJx4a65c_get_915e3 10 = .ok (.iload_n 1, 1) := by decide +kernel
theorem dJx4a65c_get_915e3_11 : decode cJx4a65c_get_915e3 11 = .ok (.invokevirtual 123, 3) := by decide +kernel
theorem dJx4a65c_get_915e3_14 : decode cJx4a65c_get_915e3 14 = .ok (.areturn, 1) := by decide +kernel
theorem dJx4a65c_add_72be8_0 : decode cJx4a65c_add_72be8 0 = .ok (.iload_n 3, 1) := by decide +kernel
theorem dJx4a65c_add_72be8_1 : decode cJx4a65c_add_72be8 1 = .ok (.aload_n 2, 1) := by decide +kernel
theorem dJx4a65c_add_72be8_2 : decode cJx4a65c_add_72be8 2 = .ok (.arraylength, 1) := by decide +kernel
theorem dJx4a65c_add_72be8_3 : decode cJx4a65c_add_72be8 3 = .ok (.if_icmp .ne 8, 3) := by decide +kernel
theorem dJx4a65c_add_72be8_6 : decode cJx4a65c_add_72be8 6 = .ok (.aload_n 0, 1) := by decide +kernel
theorem dJx4a65c_add_72be8_7 : decode cJx4a65c_add_72be8 7 = .ok (.invokevirtual 129, 3) := by decide +kernel
theorem dJx4a65c_add_72be8_10 : decode cJx4a65c_add_72be8 10 = .ok (.astore_n 2, 1) := by decide +kernel
theorem dJx4a65c_add_72be8_11 : decode cJx4a65c_add_72be8 11 = .ok (.aload_n 2, 1) := by decide +kernel
theorem dJx4a65c_add_72be8_12 : decode cJx4a65c_add_72be8 12 = .ok (.iload_n 3, 1) := by decide +kernel
theorem dJx4a65c_add_72be8_13 : decode cJx4a65c_add_72be8 13 = .ok (.aload_n 1, 1) := by decide +kernel
theorem dJx4a65c_add_72be8_14 : decode cJx4a65c_add_72be8 14 = .ok (.aastore, 1) := by decide +kernel
theorem dJx4a65c_add_72be8_15 : decode cJx4a65c_add_72be8 15 = .ok (.aload_n 0, 1) := by decide +kernel
theorem dJx4a65c_add_72be8_16 : decode cJx4a65c_add_72be8 16 = .ok (.iload_n 3, 1) := by decide +kernel
theorem dJx4a65c_add_72be8_17 : decode cJx4a65c_add_72be8 17 = .ok (.iconst 1, 1) := by decide +kernel
theorem dJx4a65c_add_72be8_18 : decode cJx4a65c_add_72be8 18 = .ok (.iadd, 1) := by decide +kernel
theorem dJx4a65c_add_72be8_19 : decode cJx4a65c_add_72be8 19 = .ok (.putfield 48, 3) := by decide +kernel
theorem dJx4a65c_add_72be8_22 : decode cJx4a65c_add_72be8 22 = .ok (.return_, 1) := by decide +kernel
theorem dJx4a65c_add_9ea2d_0 : decode cJx4a65c_add_9ea2d 0 = .ok (.aload_n 0, 1) := by decide +kernel
theorem dJx4a65c_add_9ea2d_1 : decode cJx4a65c_add_9ea2d 1 = .ok (.dup, 1) := by decide +kernel
theorem dJx4a65c_add_9ea2d_2 : decode cJx4a65c_add_9ea2d 2 = .ok (.getfield 63, 3) := by decide +kernel
theorem dJx4a65c_add_9ea2d_5 : decode cJx4a65c_add_9ea2d 5 = .ok (.iconst 1, 1) := by decide +kernel
theorem dJx4a65c_add_9ea2d_6 : decode cJx4a65c_add_9ea2d 6 = .ok (.iadd, 1) := by decide +kernel
theorem dJx4a65c_add_9ea2d_7 : decode cJx4a65c_add_9ea2d 7 = .ok (.putfield 63, 3) := by decide +kernel
theorem dJx4a65c_add_9ea2d_10 : decode cJx4a65c_add_9ea2d 10 = .ok (.aload_n 0, 1) := by decide +kernel
theorem dJx4a65c_add_9ea2d_11 : decode cJx4a65c_add_9ea2d 11 = .ok (.aload_n 1, 1) := by decide +kernel
theorem dJx4a65c_add_9ea2d_12 : decode cJx4a65c_add_9ea2d 12 = .ok (.aload_n 0, 1) := by decide +kernel
theorem dJx4a65c_add_9ea2d_13 : decode cJx4a65c_add_9ea2d 13 = .ok (.getfield 9, 3) := by decide +kernel
theorem dJx4a65c_add_9ea2d_16 : decode cJx4a65c_add_9ea2d 16 = .ok (.aload_n 0, 1) := by decide +kernel
theorem dJx4a65c_add_9ea2d_17 : decode cJx4a65c_add_9ea2d 17 = .ok (.getfield 48, 3) := by decide +kernel
theorem dJx4a65c_add_9ea2d_20 : decode cJx4a65c_add_9ea2d 20 = .ok (.invokevirtual 131, 3) := by decide +kernel
theorem dJx4a65c_add_9ea2d_23 : decode cJx4a65c_add_9ea2d 23 = .ok (.iconst 1, 1) := by decide +kernel
theorem dJx4a65c_add_9ea2d_24 : decode cJx4a65c_add_9ea2d 24 = .ok (.ireturn, 1) := by decide +kernel
theorem dJx4a65c_remove_915e3_0 : decode cJx4a65c_remove_915e3 0 = .ok (.iload_n 1, 1) := by decide +kernel
theorem dJx4a65c_remove_915e3_1 : decode cJx4a65c_remove_915e3 1 = .ok (.aload_n 0, 1) := by decide +kernel
theorem dJx4a65c_remove_915e3_2 : decode cJx4a65c_remove_915e3 2 = .ok (.getfield 48, 3) := by decide +kernel
theorem dJx4a65c_remove_915e3_5 : decode cJx4a65c_remove_915e3 5 = .ok (.invokestatic 118, 3) := by decide +kernel
theorem dJx4a65c_remove_915e3_8 : decode cJx4a65c_remove_915e3 8 = .ok (.pop, 1) := by decide +kernel
theorem dJx4a65c_remove_915e3_9 : decode cJx4a65c_remove_915e3 9 = .ok (.aload_n 0, 1) := by decide +kernel
theorem dJx4a65c_remove_915e3_10 : decode cJx4a65c_remove_915e3 10 = .ok (.getfield 9, 3) := by decide +kernel
theorem dJx4a65c_remove_915e3_13 : decode cJx4a65c_remove_915e3 13 = .ok (.astore_n 2, 1) := by decide +kernel
theorem dJx4a65c_remove_915e3_14 : decode cJx4a65c_remove_915e3 14 = .ok (.aload_n 2, 1) := by decide +kernel
theorem dJx4a65c_remove_915e3_15 : decode cJx4a65c_remove_915e3 15 = .ok (.iload_n 1, 1) := by decide +kernel
theorem dJx4a65c_remove_915e3_16 : decode cJx4a65c_remove_915e3 16 = .ok (.aaload, 1) := by decide +kernel
theorem dJx4a65c_remove_915e3_17 : decode cJx4a65c_remove_915e3 17 = .ok (.astore_n 3, 1) := by decide +kernel
theorem dJx4a65c_remove_915e3_18 : decode cJx4a65c_remove_915e3 18 = .ok (.aload_n 0, 1) := by decide +kernel
theorem dJx4a65c_remove_915e3_19 : decode cJx4a65c_remove_915e3 19 = .ok (.aload_n 2, 1) := by decide +kernel
theorem dJx4a65c_remove_915e3_20 : decode cJx4a65c_remove_915e3 20 = .ok (.iload_n 1, 1) := by decide +kernel
theorem dJx4a65c_remove_915e3_21 : decode cJx4a65c_remove_915e3 21 = .ok (.invokevirtual 144, 3) := by decide +kernel
theorem dJx4a65c_remove_915e3_24 : decode cJx4a65c_remove_915e3 24 = .ok (.aload_n 3, 1) := by decide +kernel
theorem dJx4a65c_remove_915e3_25 : decode cJx4a65c_remove_915e3 25 = .ok (.areturn, 1) := by decide +kernel
theorem dJx4a65c_fastRemove_b59b0_0 : decode cJx4a65c_fastRemove_b59b0 0 = .ok (.aload_n 0, 1) := by decide +kernel
theorem dJx4a65c_fastRemove_b59b0_1 : decode cJx4a65c_fastRemove_b59b0 1 = .ok (.dup, 1) := by decide +kernel
theorem dJx4a65c_fastRemove_b59b0_2 : decode cJx4a65c_fastRemove_b59b0 2 = .ok (.getfield 63, 3) := by decide +kernel
theorem dJx4a65c_fastRemove_b59b0_5 : decode cJx4a65c_fastRemove_b59b0 5 = .ok (.iconst 1, 1) := by decide +kernel
theorem dJx4a65c_fastRemove_b59b0_6 : decode cJx4a65c_fastRemove_b59b0 6 = .ok (.iadd, 1) := by decide +kernel
theorem dJx4a65c_fastRemove_b59b0_7 : decode cJx4a65c_fastRemove_b59b0 7 = .ok (.putfield 63, 3) := by decide +kernel
theorem dJx4a65c_fastRemove_b59b0_10 : decode cJx4a65c_fastRemove_b59b0 10 = .ok (.aload_n 0, 1) := by decide +kernel
theorem dJx4a65c_fastRemove_b59b0_11 : decode cJx4a65c_fastRemove_b59b0 11 = .ok (.getfield 48, 3) := by decide +kernel
theorem dJx4a65c_fastRemove_b59b0_14 : decode cJx4a65c_fastRemove_b59b0 14 = .ok (.iconst 1, 1) := by decide +kernel
theorem dJx4a65c_fastRemove_b59b0_15 : decode cJx4a65c_fastRemove_b59b0 15 = .ok (.isub, 1) := by decide +kernel
theorem dJx4a65c_fastRemove_b59b0_16 : decode cJx4a65c_fastRemove_b59b0 16 = .ok (.dup, 1) := by decide +kernel
theorem dJx4a65c_fastRemove_b59b0_17 : decode cJx4a65c_fastRemove_b59b0 17 = .ok (.istore_n 3, 1) := by decide +kernel
theorem dJx4a65c_fastRemove_b59b0_18 : decode cJx4a65c_fastRemove_b59b0 18 = .ok (.iload_n 2, 1) := by decide +kernel
theorem dJx4a65c_fastRemove_b59b0_19 : decode cJx4a65c_fastRemove_b59b0 19 = .ok (.if_icmp .le 15, 3) := by decide +kernel
theorem dJx4a65c_fastRemove_b59b0_22 : decode cJx4a65c_fastRemove_b59b0 22 = .ok (.aload_n 1, 1) := by decide +kernel
theorem dJx4a65c_fastRemove_b59b0_23 : decode cJx4a65c_fastRemove_b59b0 23 = .ok (.iload_n 2, 1) := by decide +kernel
theorem dJx4a65c_fastRemove_b59b0_24 : decode cJx4a65c_fastRemove_b59b0 24 = .ok (.iconst 1, 1) := by decide +kernel
theorem dJx4a65c_fastRemove_b59b0_25 : decode cJx4a65c_fastRemove_b59b0 25 = .ok (.iadd, 1) := by decide +kernel
theorem dJx4a65c_fastRemove_b59b0_26 : decode cJx4a65c_fastRemove_b59b0 26 = .ok (.aload_n 1, 1) := by decide +kernel
theorem dJx4a65c_fastRemove_b59b0_27 : decode cJx4a65c_fastRemove_b59b0 27 = .ok (.iload_n 2, 1) := by decide +kernel
theorem dJx4a65c_fastRemove_b59b0_28 : decode cJx4a65c_fastRemove_b59b0 28 = .ok (.iload_n 3, 1) := by decide +kernel
theorem dJx4a65c_fastRemove_b59b0_29 : decode cJx4a65c_fastRemove_b59b0 29 = .ok (.iload_n 2, 1) := by decide +kernel
theorem dJx4a65c_fastRemove_b59b0_30 : decode cJx4a65c_fastRemove_b59b0 30 = .ok (.isub, 1) := by decide +kernel
theorem dJx4a65c_fastRemove_b59b0_31 : decode cJx4a65c_fastRemove_b59b0 31 = .ok (.invokestatic 112, 3) := by decide +kernel
theorem dJx4a65c_fastRemove_b59b0_34 : decode cJx4a65c_fastRemove_b59b0 34 = .ok (.aload_n 1, 1) := by decide +kernel
theorem dJx4a65c_fastRemove_b59b0_35 : decode cJx4a65c_fastRemove_b59b0 35 = .ok (.aload_n 0, 1) := by decide +kernel
theorem dJx4a65c_fastRemove_b59b0_36 : decode cJx4a65c_fastRemove_b59b0 36 = .ok (.iload_n 3, 1) := by decide +kernel
theorem dJx4a65c_fastRemove_b59b0_37 : decode cJx4a65c_fastRemove_b59b0 37 = .ok (.dup_x1, 1) := by decide +kernel
theorem dJx4a65c_fastRemove_b59b0_38 : decode cJx4a65c_fastRemove_b59b0 38 = .ok (.putfield 48, 3) := by decide +kernel
theorem dJx4a65c_fastRemove_b59b0_41 : decode cJx4a65c_fastRemove_b59b0 41 = .ok (.aconst_null, 1) := by decide +kernel
theorem dJx4a65c_fastRemove_b59b0_42 : decode cJx4a65c_fastRemove_b59b0 42 = .ok (.aastore, 1) := by decide +kernel
theorem dJx4a65c_fastRemove_b59b0_43 : decode cJx4a65c_fastRemove_b59b0 43 = .ok (.return_, 1) := by decide +kernel
theorem dJx4a65c_clear_da8c8_0 : decode cJx4a65c_clear_da8c8 0 = .ok (.aload_n 0, 1) := by decide +kernel
theorem dJx4a65c_clear_da8c8_1 : decode cJx4a65c_clear_da8c8 1 = .ok (.dup, 1) := by decide +kernel
theorem dJx4a65c_clear_da8c8_2 : decode cJx4a65c_clear_da8c8 2 = .ok (.getfield 63, 3) := by decide +kernel
theorem dJx4a65c_clear_da8c8_5 : decode cJx4a65c_clear_da8c8 5 = .ok (.iconst 1, 1) := by decide +kernel
theorem dJx4a65c_clear_da8c8_6 : decode cJx4a65c_clear_da8c8 6 = .ok (.iadd, 1) := by decide +kernel
theorem dJx4a65c_clear_da8c8_7 : decode cJx4a65c_clear_da8c8 7 = .ok (.putfield 63, 3) := by decide +kernel
theorem dJx4a65c_clear_da8c8_10 : decode cJx4a65c_clear_da8c8 10 = .ok (.aload_n 0, 1) := by decide +kernel
theorem dJx4a65c_clear_da8c8_11 : decode cJx4a65c_clear_da8c8 11 = .ok (.getfield 9, 3) := by decide +kernel
theorem dJx4a65c_clear_da8c8_14 : decode cJx4a65c_clear_da8c8 14 = .ok (.astore_n 1, 1) := by decide +kernel
theorem dJx4a65c_clear_da8c8_15 : decode cJx4a65c_clear_da8c8 15 = .ok (.aload_n 0, 1) := by decide +kernel
theorem dJx4a65c_clear_da8c8_16 : decode cJx4a65c_clear_da8c8 16 = .ok (.getfield 48, 3) := by decide +kernel
theorem dJx4a65c_clear_da8c8_19 : decode cJx4a65c_clear_da8c8 19 = .ok (.istore_n 2, 1) := by decide +kernel
theorem dJx4a65c_clear_da8c8_20 : decode cJx4a65c_clear_da8c8 20 = .ok (.aload_n 0, 1) := by decide +kernel
theorem dJx4a65c_clear_da8c8_21 : decode cJx4a65c_clear_da8c8 21 = .ok (.iconst 0, 1) := by decide +kernel
theorem dJx4a65c_clear_da8c8_22 : decode cJx4a65c_clear_da8c8 22 = .ok (.dup_x1, 1) := by decide +kernel
theorem dJx4a65c_clear_da8c8_23 : decode cJx4a65c_clear_da8c8 23 = .ok (.putfield 48, 3) := by decide +kernel
theorem dJx4a65c_clear_da8c8_26 : decode cJx4a65c_clear_da8c8 26 = .ok (.istore_n 3, 1) := by decide +kernel
theorem dJx4a65c_clear_da8c8_27 : decode cJx4a65c_clear_da8c8 27 = .ok (.iload_n 3, 1) := by decide +kernel
theorem dJx4a65c_clear_da8c8_28 : decode cJx4a65c_clear_da8c8 28 = .ok (.iload_n 2, 1) := by decide +kernel
theorem dJx4a65c_clear_da8c8_29 : decode cJx4a65c_clear_da8c8 29 = .ok (.if_icmp .ge 13, 3) := by decide +kernel
theorem dJx4a65c_clear_da8c8_32 : decode cJx4a65c_clear_da8c8 32 = .ok (.aload_n 1, 1) := by decide +kernel
theorem dJx4a65c_clear_da8c8_33 : decode cJx4a65c_clear_da8c8 33 = .ok (.iload_n 3, 1) := by decide +kernel
theorem dJx4a65c_clear_da8c8_34 : decode cJx4a65c_clear_da8c8 34 = .ok (.aconst_null, 1) := by decide +kernel
theorem dJx4a65c_clear_da8c8_35 : decode cJx4a65c_clear_da8c8 35 = .ok (.aastore, 1) := by decide +kernel
theorem dJx4a65c_clear_da8c8_36 : decode cJx4a65c_clear_da8c8 36 = .ok (.iinc 3 1, 3) := by decide +kernel
theorem dJx4a65c_clear_da8c8_39 : decode cJx4a65c_clear_da8c8 39 = .ok (.goto (-12), 3) := by decide +kernel
theorem dJx4a65c_clear_da8c8_42 : decode cJx4a65c_clear_da8c8 42 = .ok (.return_, 1) := by decide +kernel
theorem dJ7_copyOf_1904c_0 : decode cJ7_copyOf_1904c 0 = .ok (.aload_n 0, 1) := by decide +kernel
theorem dJ7_copyOf_1904c_1 : decode cJ7_copyOf_1904c 1 = .ok (.iload_n 1, 1) := by decide +kernel
theorem dJ7_copyOf_1904c_2 : decode cJ7_copyOf_1904c 2 = .ok (.aload_n 0, 1) := by decide +kernel
theorem dJ7_copyOf_1904c_3 : decode cJ7_copyOf_1904c 3 = .ok (.invokevirtual 86, 3) := by decide +kernel
theorem dJ7_copyOf_1904c_6 : decode cJ7_copyOf_1904c 6 = .ok (.invokestatic 300, 3) := by decide +kernel
theorem dJ7_copyOf_1904c_9 : decode cJ7_copyOf_1904c 9 = .ok (.areturn, 1) := by decide +kernel
theorem dJ7_copyOf_6403c_0 : decode cJ7_copyOf_6403c 0 = .ok (.aload_n 2, 1) := by decide +kernel
theorem dJ7_copyOf_6403c_1 : decode cJ7_copyOf_6403c 1 = .ok (.ldc 110, 2) := by decide +kernel
theorem dJ7_copyOf_6403c_3 : decode cJ7_copyOf_6403c 3 = .ok (.if_acmp .ne 10, 3) := by decide +kernel
theorem dJ7_copyOf_6403c_6 : decode cJ7_copyOf_6403c 6 = .ok (.iload_n 1, 1) := by decide +kernel
theorem dJ7_copyOf_6403c_7 : decode cJ7_copyOf_6403c 7 = .ok (.anewarray 2, 3) := by decide +kernel
theorem dJ7_copyOf_6403c_10 : decode cJ7_copyOf_6403c 10 = .ok (.goto 14, 3) := by decide +kernel
theorem dJ7_copyOf_6403c_13 : decode cJ7_copyOf_6403c 13 = .ok (.aload_n 2, 1) := by decide +kernel
theorem dJ7_copyOf_6403c_14 : decode cJ7_copyOf_6403c 14 = .ok (.invokevirtual 90, 3) := by decide +kernel
theorem dJ7_copyOf_6403c_17 : decode cJ7_copyOf_6403c 17 = .ok (.iload_n 1, 1) := by decide +kernel
theorem dJ7_copyOf_6403c_18 : decode cJ7_copyOf_6403c 18 = .ok (.invokestatic 95, 3) := by decide +kernel
theorem dJ7_copyOf_6403c_21 : decode cJ7_copyOf_6403c 21 = .ok (.checkcast 110, 3) := by decide +kernel
theorem dJ7_copyOf_6403c_24 : decode cJ7_copyOf_6403c 24 = .ok (.astore_n 3, 1) := by decide +kernel
theorem dJ7_copyOf_6403c_25 : decode cJ7_copyOf_6403c 25 = .ok (.aload_n 0, 1) := by decide +kernel
theorem dJ7_copyOf_6403c_26 : decode cJ7_copyOf_6403c 26 = .ok (.iconst 0, 1) := by decide +kernel
theorem dJ7_copyOf_6403c_27 : decode cJ7_copyOf_6403c 27 = .ok (.aload_n 3, 1) := by decide +kernel
theorem dJ7_copyOf_6403c_28 : decode cJ7_copyOf_6403c 28 = .ok (.iconst 0, 1) := by decide +kernel
theorem dJ7_copyOf_6403c_29 : decode cJ7_copyOf_6403c 29 = .ok (.aload_n 0, 1) := by decide +kernel
theorem dJ7_copyOf_6403c_30 : decode cJ7_copyOf_6403c 30 = .ok (.arraylength, 1) := by decide +kernel
theorem dJ7_copyOf_6403c_31 : decode cJ7_copyOf_6403c 31 = .ok (.iload_n 1, 1) := by decide +kernel
theorem dJ7_copyOf_6403c_32 : decode cJ7_copyOf_6403c 32 = .ok (.invokestatic 304, 3) := by decide +kernel
theorem dJ7_copyOf_6403c_35 : decode cJ7_copyOf_6403c 35 = .ok (.invokestatic 150, 3) := by decide +kernel
theorem dJ7_copyOf_6403c_38 : decode cJ7_copyOf_6403c 38 = .ok (.aload_n 3, 1) := by decide +kernel
theorem dJ7_copyOf_6403c_39 : decode cJ7_copyOf_6403c 39 = .ok (.areturn, 1) := by decide +kernel
theorem dJ15_checkIndex_7cf53_0 : decode cJ15_checkIndex_7cf53 0 = .ok (.iload_n 0, 1) := by decide +kernel
theorem dJ15_checkIndex_7cf53_1 : decode cJ15_checkIndex_7cf53 1 = .ok (.iload_n 1, 1) := by decide +kernel
theorem dJ15_checkIndex_7cf53_2 : decode cJ15_checkIndex_7cf53 2 = .ok (.aconst_null, 1) := by decide +kernel
theorem dJ15_checkIndex_7cf53_3 : decode cJ15_checkIndex_7cf53 3 = .ok (.invokestatic 105, 3) := by decide +kernel
theorem dJ15_checkIndex_7cf53_6 : decode cJ15_checkIndex_7cf53 6 = .ok (.ireturn, 1) := by decide +kernel
theorem dJ8_newLength_cabcc_0 : decode cJ8_newLength_cabcc 0 = .ok (.iload_n 0, 1) := by decide +kernel
theorem dJ8_newLength_cabcc_1 : decode cJ8_newLength_cabcc 1 = .ok (.iload_n 1, 1) := by decide +kernel
theorem dJ8_newLength_cabcc_2 : decode cJ8_newLength_cabcc 2 = .ok (.iload_n 2, 1) := by decide +kernel
theorem dJ8_newLength_cabcc_3 : decode cJ8_newLength_cabcc 3 = .ok (.invokestatic 194, 3) := by decide +kernel
theorem dJ8_newLength_cabcc_6 : decode cJ8_newLength_cabcc 6 = .ok (.iadd, 1) := by decide +kernel
theorem dJ8_newLength_cabcc_7 : decode cJ8_newLength_cabcc 7 = .ok (.istore_n 3, 1) := by decide +kernel
theorem dJ8_newLength_cabcc_8 : decode cJ8_newLength_cabcc 8 = .ok (.iconst 0, 1) := by decide +kernel
theorem dJ8_newLength_cabcc_9 : decode cJ8_newLength_cabcc 9 = .ok (.iload_n 3, 1) := by decide +kernel
theorem dJ8_newLength_cabcc_10 : decode cJ8_newLength_cabcc 10 = .ok (.if_icmp .ge 11, 3) := by decide +kernel
theorem dJ8_newLength_cabcc_13 : decode cJ8_newLength_cabcc 13 = .ok (.iload_n 3, 1) := by decide +kernel
theorem dJ8_newLength_cabcc_14 : decode cJ8_newLength_cabcc 14 = .ok (.ldc 200, 2) := by decide +kernel
theorem dJ8_newLength_cabcc_16 : decode cJ8_newLength_cabcc 16 = .ok (.if_icmp .gt 5, 3) := by decide +kernel
theorem dJ8_newLength_cabcc_19 : decode cJ8_newLength_cabcc 19 = .ok (.iload_n 3, 1) := by decide +kernel
theorem dJ8_newLength_cabcc_20 : decode cJ8_newLength_cabcc 20 = .ok (.ireturn, 1) := by decide +kernel
theorem dJ8_newLength_cabcc_21 : decode cJ8_newLength_cabcc 21 = .ok (.iload_n 0, 1) := by decide +kernel
theorem dJ8_newLength_cabcc_22 : decode cJ8_newLength_cabcc 22 = .ok (.iload_n 1, 1) := by decide +kernel
theorem dJ8_newLength_cabcc_23 : decode cJ8_newLength_cabcc 23 = .ok (.invokestatic 201, 3) := by decide +kernel
theorem dJ8_newLength_cabcc_26 : decode cJ8_newLength_cabcc 26 = .ok (.ireturn, 1) := by decide +kernel
theorem dJ8_hugeLength_7cf53_0 : decode cJ8_hugeLength_7cf53 0 = .ok (.iload_n 0, 1) := by decide +kernel
theorem dJ8_hugeLength_7cf53_1 : decode cJ8_hugeLength_7cf53 1 = .ok (.iload_n 1, 1) := by decide +kernel
theorem dJ8_hugeLength_7cf53_2 : decode cJ8_hugeLength_7cf53 2 = .ok (.iadd, 1) := by decide +kernel
theorem dJ8_hugeLength_7cf53_3 : decode cJ8_hugeLength_7cf53 3 = .ok (.istore_n 2, 1) := by decide +kernel
theorem dJ8_hugeLength_7cf53_4 : decode cJ8_hugeLength_7cf53 4 = .ok (.iload_n 2, 1) := by decide +kernel
theorem dJ8_hugeLength_7cf53_5 : decode cJ8_hugeLength_7cf53 5 = .ok (.ifCond .ge 44, 3) := by decide +kernel
theorem dJ8_hugeLength_7cf53_8 : decode cJ8_hugeLength_7cf53 8 = .ok (.new 204, 3) := by decide +kernel
theorem dJ8_hugeLength_7cf53_11 : decode cJ8_hugeLength_7cf53 11 = .ok (.dup, 1) := by decide +kernel
theorem dJ8_hugeLength_7cf53_12 : decode cJ8_hugeLength_7cf53 12 = .ok (.new 89, 3) := by decide +kernel
theorem dJ8_hugeLength_7cf53_15 : decode cJ8_hugeLength_7cf53 15 = .ok (.dup, 1) := by decide +kernel
theorem dJ8_hugeLength_7cf53_16 : decode cJ8_hugeLength_7cf53 16 = .ok (.invokespecial 91, 3) := by decide +kernel
theorem dJ8_hugeLength_7cf53_19 : decode cJ8_hugeLength_7cf53 19 = .ok (.ldc 206, 2) := by decide +kernel
theorem dJ8_hugeLength_7cf53_21 : decode cJ8_hugeLength_7cf53 21 = .ok (.invokevirtual 94, 3) := by decide +kernel
theorem dJ8_hugeLength_7cf53_24 : decode cJ8_hugeLength_7cf53 24 = .ok (.iload_n 0, 1) := by decide +kernel
theorem dJ8_hugeLength_7cf53_25 : decode cJ8_hugeLength_7cf53 25 = .ok (.invokevirtual 98, 3) := by decide +kernel
theorem dJ8_hugeLength_7cf53_28 : decode cJ8_hugeLength_7cf53 28 = .ok (.ldc 208, 2) := by decide +kernel
theorem dJ8_hugeLength_7cf53_30 : decode cJ8_hugeLength_7cf53 30 = .ok (.invokevirtual 94, 3) := by decide +kernel
theorem dJ8_hugeLength_7cf53_33 : decode cJ8_hugeLength_7cf53 33 = .ok (.iload_n 1, 1) := by decide +kernel
theorem dJ8_hugeLength_7cf53_34 : decode cJ8_hugeLength_7cf53 34 = .ok (.invokevirtual 98, 3) := by decide +kernel
theorem dJ8_hugeLength_7cf53_37 : decode cJ8_hugeLength_7cf53 37 = .ok (.ldc 210, 2) := by decide +kernel
theorem dJ8_hugeLength_7cf53_39 : decode cJ8_hugeLength_7cf53 39 = .ok (.invokevirtual 94, 3) := by decide +kernel
theorem dJ8_hugeLength_7cf53_42 : decode cJ8_hugeLength_7cf53 42 = .ok (.invokevirtual 101, 3) := by decide +kernel
theorem dJ8_hugeLength_7cf53_45 : decode cJ8_hugeLength_7cf53 45 = .ok (.invokespecial 212, 3) := by decide +kernel
theorem dJ8_hugeLength_7cf53_48 : decode cJ8_hugeLength_7cf53 48 = .ok (.athrow, 1) := by decide +kernel
theorem dJ8_hugeLength_7cf53_49 : decode cJ8_hugeLength_7cf53 49 = .ok (.iload_n 2, 1) := by decide +kernel
theorem dJ8_hugeLength_7cf53_50 : decode cJ8_hugeLength_7cf53 50 = .ok (.ldc 200, 2) := by decide +kernel
theorem dJ8_hugeLength_7cf53_52 : decode cJ8_hugeLength_7cf53 52 = .ok (.if_icmp .gt 6, 3) := by decide +kernel
theorem dJ8_hugeLength_7cf53_55 : decode cJ8_hugeLength_7cf53 55 = .ok (.ldc 200, 2) := by decide +kernel
theorem dJ8_hugeLength_7cf53_57 : decode cJ8_hugeLength_7cf53 57 = .ok (.ireturn, 1) := by decide +kernel
theorem dJ8_hugeLength_7cf53_58 : decode cJ8_hugeLength_7cf53 58 = .ok (.iload_n 2, 1) := by decide +kernel
theorem dJ8_hugeLength_7cf53_59 : decode cJ8_hugeLength_7cf53 59 = .ok (.ireturn, 1) := by decide +kernel
theorem dJ3_checkIndex_8e157_0 : decode cJ3_checkIndex_8e157 0 = .ok (.iload_n 0, 1) := by decide +kernel
theorem dJ3_checkIndex_8e157_1 : decode cJ3_checkIndex_8e157 1 = .ok (.ifCond .lt 8, 3) := by decide +kernel
theorem dJ3_checkIndex_8e157_4 : decode cJ3_checkIndex_8e157 4 = .ok (.iload_n 0, 1) := by decide +kernel
theorem dJ3_checkIndex_8e157_5 : decode cJ3_checkIndex_8e157 5 = .ok (.iload_n 1, 1) := by decide +kernel
theorem dJ3_checkIndex_8e157_6 : decode cJ3_checkIndex_8e157 6 = .ok (.if_icmp .lt 10, 3) := by decide +kernel
theorem dJ3_checkIndex_8e157_9 : decode cJ3_checkIndex_8e157 9 = .ok (.aload_n 2, 1) := by decide +kernel
theorem dJ3_checkIndex_8e157_10 : decode cJ3_checkIndex_8e157 10 = .ok (.iload_n 0, 1) := by decide +kernel
theorem dJ3_checkIndex_8e157_11 : decode cJ3_checkIndex_8e157 11 = .ok (.iload_n 1, 1) := by decide +kernel
theorem dJ3_checkIndex_8e157_12 : decode cJ3_checkIndex_8e157 12 = .ok (.invokestatic 95, 3) := by decide +kernel
theorem dJ3_checkIndex_8e157_15 : decode cJ3_checkIndex_8e157 15 = .ok (.athrow, 1) := by decide +kernel
theorem dJ3_checkIndex_8e157_16 : decode cJ3_checkIndex_8e157 16 = .ok (.iload_n 0, 1) := by decide +kernel
theorem dJ3_checkIndex_8e157_17 : decode cJ3_checkIndex_8e157 17 = .ok (.ireturn, 1) := by decide +kernel
theorem dL_node_0 : decode cL_node 0 = .ok (.aload_n 3, 1) := by decide +kernel
theorem dL_node_1 : decode cL_node 1 = .ok (.iconst 0, 1) := by decide +kernel
theorem dL_node_2 : decode cL_node 2 = .ok (.aload_n 0, 1) := by decide +kernel
theorem dL_node_3 : decode cL_node 3 = .ok (.iload_n 1, 1) := by decide +kernel
theorem dL_node_4 : decode cL_node 4 = .ok (.iload_n 2, 1) := by decide +kernel
theorem dL_node_5 : decode cL_node 5 = .ok (.invokevirtual 7, 3) := by decide +kernel
theorem dL_node_8 : decode cL_node 8 = .ok (.i2l, 1) := by decide +kernel
theorem dL_node_9 : decode cL_node 9 = .ok (.lastore, 1) := by decide +kernel
theorem dL_node_10 : decode cL_node 10 = .ok (.goto 11, 3) := by decide +kernel
theorem dL_node_13 : decode cL_node 13 = .ok (.astore 4, 2) := by decide +kernel
theorem dL_node_15 : decode cL_node 15 = .ok (.iconst 1, 1) := by decide +kernel
theorem dL_node_16 : decode cL_node 16 = .ok (.ireturn, 1) := by decide +kernel
theorem dL_node_17 : decode cL_node 17 = .ok (.astore 4, 2) := by decide +kernel
theorem dL_node_19 : decode cL_node 19 = .ok (.iconst 2, 1) := by decide +kernel
theorem dL_node_20 : decode cL_node 20 = .ok (.ireturn, 1) := by decide +kernel
theorem dL_node_21 : decode cL_node 21 = .ok (.iconst 0, 1) := by decide +kernel
theorem dL_node_22 : decode cL_node 22 = .ok (.ireturn, 1) := by decide +kernel
theorem dL_run_0 : decode cL_run 0 = .ok (.aload 4, 2) := by decide +kernel
theorem dL_run_2 : decode cL_run 2 = .ok (.iconst 0, 1) := by decide +kernel
theorem dL_run_3 : decode cL_run 3 = .ok (.aload_n 0, 1) := by decide +kernel
theorem dL_run_4 : decode cL_run 4 = .ok (.iload_n 1, 1) := by decide +kernel
theorem dL_run_5 : decode cL_run 5 = .ok (.lload_n 2, 1) := by decide +kernel
theorem dL_run_6 : decode cL_run 6 = .ok (.invokevirtual 17, 3) := by decide +kernel
theorem dL_run_9 : decode cL_run 9 = .ok (.i2l, 1) := by decide +kernel
theorem dL_run_10 : decode cL_run 10 = .ok (.lastore, 1) := by decide +kernel
theorem dL_run_11 : decode cL_run 11 = .ok (.goto 11, 3) := by decide +kernel
theorem dL_run_14 : decode cL_run 14 = .ok (.astore 5, 2) := by decide +kernel
theorem dL_run_16 : decode cL_run 16 = .ok (.iconst 1, 1) := by decide +kernel
theorem dL_run_17 : decode cL_run 17 = .ok (.ireturn, 1) := by decide +kernel
theorem dL_run_18 : decode cL_run 18 = .ok (.astore 5, 2) := by decide +kernel
theorem dL_run_20 : decode cL_run 20 = .ok (.iconst 2, 1) := by decide +kernel
theorem dL_run_21 : decode cL_run 21 = .ok (.ireturn, 1) := by decide +kernel
theorem dL_run_22 : decode cL_run 22 = .ok (.iconst 0, 1) := by decide +kernel
theorem dL_run_23 : decode cL_run 23 = .ok (.ireturn, 1) := by decide +kernel
theorem dL_result_0 : decode cL_result 0 = .ok (.aload_n 3, 1) := by decide +kernel
theorem dL_result_1 : decode cL_result 1 = .ok (.iconst 0, 1) := by decide +kernel
theorem dL_result_2 : decode cL_result 2 = .ok (.aload_n 0, 1) := by decide +kernel
theorem dL_result_3 : decode cL_result 3 = .ok (.iload_n 1, 1) := by decide +kernel
theorem dL_result_4 : decode cL_result 4 = .ok (.iload_n 2, 1) := by decide +kernel
theorem dL_result_5 : decode cL_result 5 = .ok (.invokevirtual 21, 3) := by decide +kernel
theorem dL_result_8 : decode cL_result 8 = .ok (.lastore, 1) := by decide +kernel
theorem dL_result_9 : decode cL_result 9 = .ok (.goto 7, 3) := by decide +kernel
theorem dL_result_12 : decode cL_result 12 = .ok (.astore 4, 2) := by decide +kernel
theorem dL_result_14 : decode cL_result 14 = .ok (.iconst 1, 1) := by decide +kernel
theorem dL_result_15 : decode cL_result 15 = .ok (.ireturn, 1) := by decide +kernel
theorem dL_result_16 : decode cL_result 16 = .ok (.iconst 0, 1) := by decide +kernel
theorem dL_result_17 : decode cL_result 17 = .ok (.ireturn, 1) := by decide +kernel
theorem dL_context_0 : decode cL_context 0 = .ok (.aload_n 3, 1) := by decide +kernel
theorem dL_context_1 : decode cL_context 1 = .ok (.iconst 0, 1) := by decide +kernel
theorem dL_context_2 : decode cL_context 2 = .ok (.aload_n 0, 1) := by decide +kernel
theorem dL_context_3 : decode cL_context 3 = .ok (.iload_n 1, 1) := by decide +kernel
theorem dL_context_4 : decode cL_context 4 = .ok (.iload_n 2, 1) := by decide +kernel
theorem dL_context_5 : decode cL_context 5 = .ok (.invokevirtual 27, 3) := by decide +kernel
theorem dL_context_8 : decode cL_context 8 = .ok (.i2l, 1) := by decide +kernel
theorem dL_context_9 : decode cL_context 9 = .ok (.lastore, 1) := by decide +kernel
theorem dL_context_10 : decode cL_context 10 = .ok (.goto 7, 3) := by decide +kernel
theorem dL_context_13 : decode cL_context 13 = .ok (.astore 4, 2) := by decide +kernel
theorem dL_context_15 : decode cL_context 15 = .ok (.iconst 1, 1) := by decide +kernel
theorem dL_context_16 : decode cL_context 16 = .ok (.ireturn, 1) := by decide +kernel
theorem dL_context_17 : decode cL_context 17 = .ok (.iconst 0, 1) := by decide +kernel
theorem dL_context_18 : decode cL_context 18 = .ok (.ireturn, 1) := by decide +kernel
theorem dL_cell_0 : decode cL_cell 0 = .ok (.aload 4, 2) := by decide +kernel
theorem dL_cell_2 : decode cL_cell 2 = .ok (.iconst 0, 1) := by decide +kernel
theorem dL_cell_3 : decode cL_cell 3 = .ok (.aload_n 0, 1) := by decide +kernel
theorem dL_cell_4 : decode cL_cell 4 = .ok (.iload_n 1, 1) := by decide +kernel
theorem dL_cell_5 : decode cL_cell 5 = .ok (.iload_n 2, 1) := by decide +kernel
theorem dL_cell_6 : decode cL_cell 6 = .ok (.iload_n 3, 1) := by decide +kernel
theorem dL_cell_7 : decode cL_cell 7 = .ok (.invokevirtual 30, 3) := by decide +kernel
theorem dL_cell_10 : decode cL_cell 10 = .ok (.lastore, 1) := by decide +kernel
theorem dL_cell_11 : decode cL_cell 11 = .ok (.goto 7, 3) := by decide +kernel
theorem dL_cell_14 : decode cL_cell 14 = .ok (.astore 5, 2) := by decide +kernel
theorem dL_cell_16 : decode cL_cell 16 = .ok (.iconst 1, 1) := by decide +kernel
theorem dL_cell_17 : decode cL_cell 17 = .ok (.ireturn, 1) := by decide +kernel
theorem dL_cell_18 : decode cL_cell 18 = .ok (.iconst 0, 1) := by decide +kernel
theorem dL_cell_19 : decode cL_cell 19 = .ok (.ireturn, 1) := by decide +kernel
theorem dL_law_0 : decode cL_law 0 = .ok (.new 8, 3) := by decide +kernel
theorem dL_law_3 : decode cL_law 3 = .ok (.dup, 1) := by decide +kernel
theorem dL_law_4 : decode cL_law 4 = .ok (.invokespecial 34, 3) := by decide +kernel
theorem dL_law_7 : decode cL_law 7 = .ok (.astore_n 1, 1) := by decide +kernel
theorem dL_law_8 : decode cL_law 8 = .ok (.new 35, 3) := by decide +kernel
theorem dL_law_11 : decode cL_law 11 = .ok (.dup, 1) := by decide +kernel
theorem dL_law_12 : decode cL_law 12 = .ok (.invokespecial 37, 3) := by decide +kernel
theorem dL_law_15 : decode cL_law 15 = .ok (.astore_n 2, 1) := by decide +kernel
theorem dL_law_16 : decode cL_law 16 = .ok (.iconst 1, 1) := by decide +kernel
theorem dL_law_17 : decode cL_law 17 = .ok (.newarray .long, 2) := by decide +kernel
theorem dL_law_19 : decode cL_law 19 = .ok (.astore_n 3, 1) := by decide +kernel
theorem dL_law_20 : decode cL_law 20 = .ok (.iconst 0, 1) := by decide +kernel
theorem dL_law_21 : decode cL_law 21 = .ok (.istore 4, 2) := by decide +kernel
theorem dL_law_23 : decode cL_law 23 = .ok (.iload 4, 2) := by decide +kernel
theorem dL_law_25 : decode cL_law 25 = .ok (.aload_n 0, 1) := by decide +kernel
theorem dL_law_26 : decode cL_law 26 = .ok (.arraylength, 1) := by decide +kernel
theorem dL_law_27 : decode cL_law 27 = .ok (.iconst 5, 1) := by decide +kernel
theorem dL_law_28 : decode cL_law 28 = .ok (.isub, 1) := by decide +kernel
theorem dL_law_29 : decode cL_law 29 = .ok (.if_icmp .gt 735, 3) := by decide +kernel
theorem dL_law_32 : decode cL_law 32 = .ok (.aload_n 0, 1) := by decide +kernel
theorem dL_law_33 : decode cL_law 33 = .ok (.iload 4, 2) := by decide +kernel
theorem dL_law_35 : decode cL_law 35 = .ok (.iaload, 1) := by decide +kernel
theorem dL_law_36 : decode cL_law 36 = .ok (.bipush 15, 2) := by decide +kernel
theorem dL_law_38 : decode cL_law 38 = .ok (.iand, 1) := by decide +kernel
theorem dL_law_39 : decode cL_law 39 = .ok (.tableswitch 719 0 10 #[57, 125, 186, 267, 367, 406, 443, 510, 578, 657, 694], 57) := by decide +kernel
theorem dL_law_96 : decode cL_law 96 = .ok (.aload_n 1, 1) := by decide +kernel
theorem dL_law_97 : decode cL_law 97 = .ok (.aload_n 0, 1) := by decide +kernel
theorem dL_law_98 : decode cL_law 98 = .ok (.iload 4, 2) := by decide +kernel
theorem dL_law_100 : decode cL_law 100 = .ok (.iconst 1, 1) := by decide +kernel
theorem dL_law_101 : decode cL_law 101 = .ok (.iadd, 1) := by decide +kernel
theorem dL_law_102 : decode cL_law 102 = .ok (.iaload, 1) := by decide +kernel
theorem dL_law_103 : decode cL_law 103 = .ok (.aload_n 0, 1) := by decide +kernel
theorem dL_law_104 : decode cL_law 104 = .ok (.iload 4, 2) := by decide +kernel
theorem dL_law_106 : decode cL_law 106 = .ok (.iconst 2, 1) := by decide +kernel
theorem dL_law_107 : decode cL_law 107 = .ok (.iadd, 1) := by decide +kernel
theorem dL_law_108 : decode cL_law 108 = .ok (.iaload, 1) := by decide +kernel
theorem dL_law_109 : decode cL_law 109 = .ok (.aload_n 3, 1) := by decide +kernel
theorem dL_law_110 : decode cL_law 110 = .ok (.invokestatic 38, 3) := by decide +kernel
theorem dL_law_113 : decode cL_law 113 = .ok (.istore 5, 2) := by decide +kernel
theorem dL_law_115 : decode cL_law 115 = .ok (.aload_n 2, 1) := by decide +kernel
theorem dL_law_116 : decode cL_law 116 = .ok (.aload_n 0, 1) := by decide +kernel
theorem dL_law_117 : decode cL_law 117 = .ok (.iload 4, 2) := by decide +kernel
theorem dL_law_119 : decode cL_law 119 = .ok (.iconst 1, 1) := by decide +kernel
theorem dL_law_120 : decode cL_law 120 = .ok (.iadd, 1) := by decide +kernel
theorem dL_law_121 : decode cL_law 121 = .ok (.iaload, 1) := by decide +kernel
theorem dL_law_122 : decode cL_law 122 = .ok (.aload_n 0, 1) := by decide +kernel
theorem dL_law_123 : decode cL_law 123 = .ok (.iload 4, 2) := by decide +kernel
theorem dL_law_125 : decode cL_law 125 = .ok (.iconst 2, 1) := by decide +kernel
theorem dL_law_126 : decode cL_law 126 = .ok (.iadd, 1) := by decide +kernel
theorem dL_law_127 : decode cL_law 127 = .ok (.iaload, 1) := by decide +kernel
theorem dL_law_128 : decode cL_law 128 = .ok (.invokevirtual 43, 3) := by decide +kernel
theorem dL_law_131 : decode cL_law 131 = .ok (.istore 6, 2) := by decide +kernel
theorem dL_law_133 : decode cL_law 133 = .ok (.aload_n 2, 1) := by decide +kernel
theorem dL_law_134 : decode cL_law 134 = .ok (.invokevirtual 44, 3) := by decide +kernel
theorem dL_law_137 : decode cL_law 137 = .ok (.iload 5, 2) := by decide +kernel
theorem dL_law_139 : decode cL_law 139 = .ok (.if_icmp .eq 5, 3) := by decide +kernel
theorem dL_law_142 : decode cL_law 142 = .ok (.iconst 0, 1) := by decide +kernel
theorem dL_law_143 : decode cL_law 143 = .ok (.ireturn, 1) := by decide +kernel
theorem dL_law_144 : decode cL_law 144 = .ok (.iload 5, 2) := by decide +kernel
theorem dL_law_146 : decode cL_law 146 = .ok (.ifCond .ne 15, 3) := by decide +kernel
theorem dL_law_149 : decode cL_law 149 = .ok (.aload_n 3, 1) := by decide +kernel
theorem dL_law_150 : decode cL_law 150 = .ok (.iconst 0, 1) := by decide +kernel
theorem dL_law_151 : decode cL_law 151 = .ok (.laload, 1) := by decide +kernel
theorem dL_law_152 : decode cL_law 152 = .ok (.iload 6, 2) := by decide +kernel
theorem dL_law_154 : decode cL_law 154 = .ok (.i2l, 1) := by decide +kernel
theorem dL_law_155 : decode cL_law 155 = .ok (.lcmp, 1) := by decide +kernel
theorem dL_law_156 : decode cL_law 156 = .ok (.ifCond .eq 5, 3) := by decide +kernel
theorem dL_law_159 : decode cL_law 159 = .ok (.iconst 0, 1) := by decide +kernel
theorem dL_law_160 : decode cL_law 160 = .ok (.ireturn, 1) := by decide +kernel
theorem dL_law_161 : decode cL_law 161 = .ok (.goto 597, 3) := by decide +kernel
theorem dL_law_164 : decode cL_law 164 = .ok (.aload_n 1, 1) := by decide +kernel
theorem dL_law_165 : decode cL_law 165 = .ok (.aload_n 0, 1) := by decide +kernel
theorem dL_law_166 : decode cL_law 166 = .ok (.iload 4, 2) := by decide +kernel
theorem dL_law_168 : decode cL_law 168 = .ok (.iconst 1, 1) := by decide +kernel
theorem dL_law_169 : decode cL_law 169 = .ok (.iadd, 1) := by decide +kernel
theorem dL_law_170 : decode cL_law 170 = .ok (.iaload, 1) := by decide +kernel
theorem dL_law_171 : decode cL_law 171 = .ok (.aload_n 0, 1) := by decide +kernel
theorem dL_law_172 : decode cL_law 172 = .ok (.iload 4, 2) := by decide +kernel
theorem dL_law_174 : decode cL_law 174 = .ok (.iconst 2, 1) := by decide +kernel
theorem dL_law_175 : decode cL_law 175 = .ok (.iadd, 1) := by decide +kernel
theorem dL_law_176 : decode cL_law 176 = .ok (.iaload, 1) := by decide +kernel
theorem dL_law_177 : decode cL_law 177 = .ok (.aload_n 0, 1) := by decide +kernel
theorem dL_law_178 : decode cL_law 178 = .ok (.iload 4, 2) := by decide +kernel
theorem dL_law_180 : decode cL_law 180 = .ok (.iconst 3, 1) := by decide +kernel
theorem dL_law_181 : decode cL_law 181 = .ok (.iadd, 1) := by decide +kernel
theorem dL_law_182 : decode cL_law 182 = .ok (.iaload, 1) := by decide +kernel
theorem dL_law_183 : decode cL_law 183 = .ok (.aload_n 0, 1) := by decide +kernel
theorem dL_law_184 : decode cL_law 184 = .ok (.iload 4, 2) := by decide +kernel
theorem dL_law_186 : decode cL_law 186 = .ok (.iconst 4, 1) := by decide +kernel
theorem dL_law_187 : decode cL_law 187 = .ok (.iadd, 1) := by decide +kernel
theorem dL_law_188 : decode cL_law 188 = .ok (.iaload, 1) := by decide +kernel
theorem dL_law_189 : decode cL_law 189 = .ok (.invokevirtual 48, 3) := by decide +kernel
theorem dL_law_192 : decode cL_law 192 = .ok (.aload_n 2, 1) := by decide +kernel
theorem dL_law_193 : decode cL_law 193 = .ok (.aload_n 0, 1) := by decide +kernel
theorem dL_law_194 : decode cL_law 194 = .ok (.iload 4, 2) := by decide +kernel
theorem dL_law_196 : decode cL_law 196 = .ok (.iconst 1, 1) := by decide +kernel
theorem dL_law_197 : decode cL_law 197 = .ok (.iadd, 1) := by decide +kernel
theorem dL_law_198 : decode cL_law 198 = .ok (.iaload, 1) := by decide +kernel
theorem dL_law_199 : decode cL_law 199 = .ok (.aload_n 0, 1) := by decide +kernel
theorem dL_law_200 : decode cL_law 200 = .ok (.iload 4, 2) := by decide +kernel
theorem dL_law_202 : decode cL_law 202 = .ok (.iconst 2, 1) := by decide +kernel
theorem dL_law_203 : decode cL_law 203 = .ok (.iadd, 1) := by decide +kernel
theorem dL_law_204 : decode cL_law 204 = .ok (.iaload, 1) := by decide +kernel
theorem dL_law_205 : decode cL_law 205 = .ok (.aload_n 0, 1) := by decide +kernel
theorem dL_law_206 : decode cL_law 206 = .ok (.iload 4, 2) := by decide +kernel
theorem dL_law_208 : decode cL_law 208 = .ok (.iconst 3, 1) := by decide +kernel
theorem dL_law_209 : decode cL_law 209 = .ok (.iadd, 1) := by decide +kernel
theorem dL_law_210 : decode cL_law 210 = .ok (.iaload, 1) := by decide +kernel
theorem dL_law_211 : decode cL_law 211 = .ok (.aload_n 0, 1) := by decide +kernel
theorem dL_law_212 : decode cL_law 212 = .ok (.iload 4, 2) := by decide +kernel
theorem dL_law_214 : decode cL_law 214 = .ok (.iconst 4, 1) := by decide +kernel
theorem dL_law_215 : decode cL_law 215 = .ok (.iadd, 1) := by decide +kernel
theorem dL_law_216 : decode cL_law 216 = .ok (.iaload, 1) := by decide +kernel
theorem dL_law_217 : decode cL_law 217 = .ok (.invokevirtual 52, 3) := by decide +kernel
theorem dL_law_220 : decode cL_law 220 = .ok (.if_icmp .eq 538, 3) := by decide +kernel
theorem dL_law_223 : decode cL_law 223 = .ok (.iconst 0, 1) := by decide +kernel
theorem dL_law_224 : decode cL_law 224 = .ok (.ireturn, 1) := by decide +kernel
theorem dL_law_225 : decode cL_law 225 = .ok (.aload_n 1, 1) := by decide +kernel
theorem dL_law_226 : decode cL_law 226 = .ok (.aload_n 0, 1) := by decide +kernel
theorem dL_law_227 : decode cL_law 227 = .ok (.iload 4, 2) := by decide +kernel
theorem dL_law_229 : decode cL_law 229 = .ok (.iconst 1, 1) := by decide +kernel
theorem dL_law_230 : decode cL_law 230 = .ok (.iadd, 1) := by decide +kernel
theorem dL_law_231 : decode cL_law 231 = .ok (.iaload, 1) := by decide +kernel
theorem dL_law_232 : decode cL_law 232 = .ok (.aload_n 0, 1) := by decide +kernel
theorem dL_law_233 : decode cL_law 233 = .ok (.iload 4, 2) := by decide +kernel
theorem dL_law_235 : decode cL_law 235 = .ok (.iconst 2, 1) := by decide +kernel
theorem dL_law_236 : decode cL_law 236 = .ok (.iadd, 1) := by decide +kernel
theorem dL_law_237 : decode cL_law 237 = .ok (.iaload, 1) := by decide +kernel
theorem dL_law_238 : decode cL_law 238 = .ok (.aload_n 0, 1) := by decide +kernel
theorem dL_law_239 : decode cL_law 239 = .ok (.iload 4, 2) := by decide +kernel
theorem dL_law_241 : decode cL_law 241 = .ok (.iconst 3, 1) := by decide +kernel
theorem dL_law_242 : decode cL_law 242 = .ok (.iadd, 1) := by decide +kernel
theorem dL_law_243 : decode cL_law 243 = .ok (.iaload, 1) := by decide +kernel
theorem dL_law_244 : decode cL_law 244 = .ok (.i2l, 1) := by decide +kernel
theorem dL_law_245 : decode cL_law 245 = .ok (.bipush 32, 2) := by decide +kernel
theorem dL_law_247 : decode cL_law 247 = .ok (.lshl, 1) := by decide +kernel
theorem dL_law_248 : decode cL_law 248 = .ok (.aload_n 0, 1) := by decide +kernel
theorem dL_law_249 : decode cL_law 249 = .ok (.iload 4, 2) := by decide +kernel
theorem dL_law_251 : decode cL_law 251 = .ok (.iconst 4, 1) := by decide +kernel
theorem dL_law_252 : decode cL_law 252 = .ok (.iadd, 1) := by decide +kernel
theorem dL_law_253 : decode cL_law 253 = .ok (.iaload, 1) := by decide +kernel
theorem dL_law_254 : decode cL_law 254 = .ok (.i2l, 1) := by decide +kernel
theorem dL_law_255 : decode cL_law 255 = .ok (.ldc2_w 53, 3) := by decide +kernel
theorem dL_law_258 : decode cL_law 258 = .ok (.land, 1) := by decide +kernel
theorem dL_law_259 : decode cL_law 259 = .ok (.lor, 1) := by decide +kernel
theorem dL_law_260 : decode cL_law 260 = .ok (.invokevirtual 55, 3) := by decide +kernel
theorem dL_law_263 : decode cL_law 263 = .ok (.aload_n 2, 1) := by decide +kernel
theorem dL_law_264 : decode cL_law 264 = .ok (.aload_n 0, 1) := by decide +kernel
theorem dL_law_265 : decode cL_law 265 = .ok (.iload 4, 2) := by decide +kernel
theorem dL_law_267 : decode cL_law 267 = .ok (.iconst 1, 1) := by decide +kernel
theorem dL_law_268 : decode cL_law 268 = .ok (.iadd, 1) := by decide +kernel
theorem dL_law_269 : decode cL_law 269 = .ok (.iaload, 1) := by decide +kernel
theorem dL_law_270 : decode cL_law 270 = .ok (.aload_n 0, 1) := by decide +kernel
theorem dL_law_271 : decode cL_law 271 = .ok (.iload 4, 2) := by decide +kernel
theorem dL_law_273 : decode cL_law 273 = .ok (.iconst 2, 1) := by decide +kernel
theorem dL_law_274 : decode cL_law 274 = .ok (.iadd, 1) := by decide +kernel
theorem dL_law_275 : decode cL_law 275 = .ok (.iaload, 1) := by decide +kernel
theorem dL_law_276 : decode cL_law 276 = .ok (.aload_n 0, 1) := by decide +kernel
theorem dL_law_277 : decode cL_law 277 = .ok (.iload 4, 2) := by decide +kernel
theorem dL_law_279 : decode cL_law 279 = .ok (.iconst 3, 1) := by decide +kernel
theorem dL_law_280 : decode cL_law 280 = .ok (.iadd, 1) := by decide +kernel
theorem dL_law_281 : decode cL_law 281 = .ok (.iaload, 1) := by decide +kernel
theorem dL_law_282 : decode cL_law 282 = .ok (.i2l, 1) := by decide +kernel
theorem dL_law_283 : decode cL_law 283 = .ok (.bipush 32, 2) := by decide +kernel
theorem dL_law_285 : decode cL_law 285 = .ok (.lshl, 1) := by decide +kernel
theorem dL_law_286 : decode cL_law 286 = .ok (.aload_n 0, 1) := by decide +kernel
theorem dL_law_287 : decode cL_law 287 = .ok (.iload 4, 2) := by decide +kernel
theorem dL_law_289 : decode cL_law 289 = .ok (.iconst 4, 1) := by decide +kernel
theorem dL_law_290 : decode cL_law 290 = .ok (.iadd, 1) := by decide +kernel
theorem dL_law_291 : decode cL_law 291 = .ok (.iaload, 1) := by decide +kernel
theorem dL_law_292 : decode cL_law 292 = .ok (.i2l, 1) := by decide +kernel
theorem dL_law_293 : decode cL_law 293 = .ok (.ldc2_w 53, 3) := by decide +kernel
theorem dL_law_296 : decode cL_law 296 = .ok (.land, 1) := by decide +kernel
theorem dL_law_297 : decode cL_law 297 = .ok (.lor, 1) := by decide +kernel
theorem dL_law_298 : decode cL_law 298 = .ok (.invokevirtual 59, 3) := by decide +kernel
theorem dL_law_301 : decode cL_law 301 = .ok (.if_icmp .eq 457, 3) := by decide +kernel
theorem dL_law_304 : decode cL_law 304 = .ok (.iconst 0, 1) := by decide +kernel
theorem dL_law_305 : decode cL_law 305 = .ok (.ireturn, 1) := by decide +kernel
theorem dL_law_306 : decode cL_law 306 = .ok (.aload_n 1, 1) := by decide +kernel
theorem dL_law_307 : decode cL_law 307 = .ok (.aload_n 0, 1) := by decide +kernel
theorem dL_law_308 : decode cL_law 308 = .ok (.iload 4, 2) := by decide +kernel
theorem dL_law_310 : decode cL_law 310 = .ok (.iconst 1, 1) := by decide +kernel
theorem dL_law_311 : decode cL_law 311 = .ok (.iadd, 1) := by decide +kernel
theorem dL_law_312 : decode cL_law 312 = .ok (.iaload, 1) := by decide +kernel
theorem dL_law_313 : decode cL_law 313 = .ok (.aload_n 0, 1) := by decide +kernel
theorem dL_law_314 : decode cL_law 314 = .ok (.iload 4, 2) := by decide +kernel
theorem dL_law_316 : decode cL_law 316 = .ok (.iconst 2, 1) := by decide +kernel
theorem dL_law_317 : decode cL_law 317 = .ok (.iadd, 1) := by decide +kernel
theorem dL_law_318 : decode cL_law 318 = .ok (.iaload, 1) := by decide +kernel
theorem dL_law_319 : decode cL_law 319 = .ok (.i2l, 1) := by decide +kernel
theorem dL_law_320 : decode cL_law 320 = .ok (.bipush 32, 2) := by decide +kernel
theorem dL_law_322 : decode cL_law 322 = .ok (.lshl, 1) := by decide +kernel
theorem dL_law_323 : decode cL_law 323 = .ok (.aload_n 0, 1) := by decide +kernel
theorem dL_law_324 : decode cL_law 324 = .ok (.iload 4, 2) := by decide +kernel
theorem dL_law_326 : decode cL_law 326 = .ok (.iconst 3, 1) := by decide +kernel
theorem dL_law_327 : decode cL_law 327 = .ok (.iadd, 1) := by decide +kernel
theorem dL_law_328 : decode cL_law 328 = .ok (.iaload, 1) := by decide +kernel
theorem dL_law_329 : decode cL_law 329 = .ok (.i2l, 1) := by decide +kernel
theorem dL_law_330 : decode cL_law 330 = .ok (.ldc2_w 53, 3) := by decide +kernel
theorem dL_law_333 : decode cL_law 333 = .ok (.land, 1) := by decide +kernel
theorem dL_law_334 : decode cL_law 334 = .ok (.lor, 1) := by decide +kernel
theorem dL_law_335 : decode cL_law 335 = .ok (.aload_n 3, 1) := by decide +kernel
theorem dL_law_336 : decode cL_law 336 = .ok (.invokestatic 60, 3) := by decide +kernel
theorem dL_law_339 : decode cL_law 339 = .ok (.istore 5, 2) := by decide +kernel
theorem dL_law_341 : decode cL_law 341 = .ok (.aload_n 2, 1) := by decide +kernel
theorem dL_law_342 : decode cL_law 342 = .ok (.aload_n 0, 1) := by decide +kernel
theorem dL_law_343 : decode cL_law 343 = .ok (.iload 4, 2) := by decide +kernel
theorem dL_law_345 : decode cL_law 345 = .ok (.iconst 1, 1) := by decide +kernel
theorem dL_law_346 : decode cL_law 346 = .ok (.iadd, 1) := by decide +kernel
theorem dL_law_347 : decode cL_law 347 = .ok (.iaload, 1) := by decide +kernel
theorem dL_law_348 : decode cL_law 348 = .ok (.aload_n 0, 1) := by decide +kernel
theorem dL_law_349 : decode cL_law 349 = .ok (.iload 4, 2) := by decide +kernel
theorem dL_law_351 : decode cL_law 351 = .ok (.iconst 2, 1) := by decide +kernel
theorem dL_law_352 : decode cL_law 352 = .ok (.iadd, 1) := by decide +kernel
theorem dL_law_353 : decode cL_law 353 = .ok (.iaload, 1) := by decide +kernel
theorem dL_law_354 : decode cL_law 354 = .ok (.i2l, 1) := by decide +kernel
theorem dL_law_355 : decode cL_law 355 = .ok (.bipush 32, 2) := by decide +kernel
theorem dL_law_357 : decode cL_law 357 = .ok (.lshl, 1) := by decide +kernel
theorem dL_law_358 : decode cL_law 358 = .ok (.aload_n 0, 1) := by decide +kernel
theorem dL_law_359 : decode cL_law 359 = .ok (.iload 4, 2) := by decide +kernel
theorem dL_law_361 : decode cL_law 361 = .ok (.iconst 3, 1) := by decide +kernel
theorem dL_law_362 : decode cL_law 362 = .ok (.iadd, 1) := by decide +kernel
theorem dL_law_363 : decode cL_law 363 = .ok (.iaload, 1) := by decide +kernel
theorem dL_law_364 : decode cL_law 364 = .ok (.i2l, 1) := by decide +kernel
theorem dL_law_365 : decode cL_law 365 = .ok (.ldc2_w 53, 3) := by decide +kernel
theorem dL_law_368 : decode cL_law 368 = .ok (.land, 1) := by decide +kernel
theorem dL_law_369 : decode cL_law 369 = .ok (.lor, 1) := by decide +kernel
theorem dL_law_370 : decode cL_law 370 = .ok (.invokevirtual 63, 3) := by decide +kernel
theorem dL_law_373 : decode cL_law 373 = .ok (.istore 6, 2) := by decide +kernel
theorem dL_law_375 : decode cL_law 375 = .ok (.aload_n 2, 1) := by decide +kernel
theorem dL_law_376 : decode cL_law 376 = .ok (.invokevirtual 44, 3) := by decide +kernel
theorem dL_law_379 : decode cL_law 379 = .ok (.iload 5, 2) := by decide +kernel
theorem dL_law_381 : decode cL_law 381 = .ok (.if_icmp .eq 5, 3) := by decide +kernel
theorem dL_law_384 : decode cL_law 384 = .ok (.iconst 0, 1) := by decide +kernel
theorem dL_law_385 : decode cL_law 385 = .ok (.ireturn, 1) := by decide +kernel
theorem dL_law_386 : decode cL_law 386 = .ok (.iload 5, 2) := by decide +kernel
theorem dL_law_388 : decode cL_law 388 = .ok (.ifCond .ne 15, 3) := by decide +kernel
theorem dL_law_391 : decode cL_law 391 = .ok (.aload_n 3, 1) := by decide +kernel
theorem dL_law_392 : decode cL_law 392 = .ok (.iconst 0, 1) := by decide +kernel
theorem dL_law_393 : decode cL_law 393 = .ok (.laload, 1) := by decide +kernel
theorem dL_law_394 : decode cL_law 394 = .ok (.iload 6, 2) := by decide +kernel
theorem dL_law_396 : decode cL_law 396 = .ok (.i2l, 1) := by decide +kernel
theorem dL_law_397 : decode cL_law 397 = .ok (.lcmp, 1) := by decide +kernel
theorem dL_law_398 : decode cL_law 398 = .ok (.ifCond .eq 5, 3) := by decide +kernel
theorem dL_law_401 : decode cL_law 401 = .ok (.iconst 0, 1) := by decide +kernel
theorem dL_law_402 : decode cL_law 402 = .ok (.ireturn, 1) := by decide +kernel
theorem dL_law_403 : decode cL_law 403 = .ok (.goto 355, 3) := by decide +kernel
theorem dL_law_406 : decode cL_law 406 = .ok (.aload_n 1, 1) := by decide +kernel
theorem dL_law_407 : decode cL_law 407 = .ok (.aload_n 0, 1) := by decide +kernel
theorem dL_law_408 : decode cL_law 408 = .ok (.iload 4, 2) := by decide +kernel
theorem dL_law_410 : decode cL_law 410 = .ok (.iconst 1, 1) := by decide +kernel
theorem dL_law_411 : decode cL_law 411 = .ok (.iadd, 1) := by decide +kernel
theorem dL_law_412 : decode cL_law 412 = .ok (.iaload, 1) := by decide +kernel
theorem dL_law_413 : decode cL_law 413 = .ok (.ifCond .eq 7, 3) := by decide +kernel
theorem dL_law_416 : decode cL_law 416 = .ok (.iconst 1, 1) := by decide +kernel
theorem dL_law_417 : decode cL_law 417 = .ok (.goto 4, 3) := by decide +kernel
theorem dL_law_420 : decode cL_law 420 = .ok (.iconst 0, 1) := by decide +kernel
theorem dL_law_421 : decode cL_law 421 = .ok (.invokevirtual 64, 3) := by decide +kernel
theorem dL_law_424 : decode cL_law 424 = .ok (.aload_n 2, 1) := by decide +kernel
theorem dL_law_425 : decode cL_law 425 = .ok (.aload_n 0, 1) := by decide +kernel
theorem dL_law_426 : decode cL_law 426 = .ok (.iload 4, 2) := by decide +kernel
theorem dL_law_428 : decode cL_law 428 = .ok (.iconst 1, 1) := by decide +kernel
theorem dL_law_429 : decode cL_law 429 = .ok (.iadd, 1) := by decide +kernel
theorem dL_law_430 : decode cL_law 430 = .ok (.iaload, 1) := by decide +kernel
theorem dL_law_431 : decode cL_law 431 = .ok (.ifCond .eq 7, 3) := by decide +kernel
theorem dL_law_434 : decode cL_law 434 = .ok (.iconst 1, 1) := by decide +kernel
theorem dL_law_435 : decode cL_law 435 = .ok (.goto 4, 3) := by decide +kernel
theorem dL_law_438 : decode cL_law 438 = .ok (.iconst 0, 1) := by decide +kernel
theorem dL_law_439 : decode cL_law 439 = .ok (.invokevirtual 68, 3) := by decide +kernel
theorem dL_law_442 : decode cL_law 442 = .ok (.goto 316, 3) := by decide +kernel
theorem dL_law_445 : decode cL_law 445 = .ok (.aload_n 1, 1) := by decide +kernel
theorem dL_law_446 : decode cL_law 446 = .ok (.aload_n 0, 1) := by decide +kernel
theorem dL_law_447 : decode cL_law 447 = .ok (.iload 4, 2) := by decide +kernel
theorem dL_law_449 : decode cL_law 449 = .ok (.iconst 1, 1) := by decide +kernel
theorem dL_law_450 : decode cL_law 450 = .ok (.iadd, 1) := by decide +kernel
theorem dL_law_451 : decode cL_law 451 = .ok (.iaload, 1) := by decide +kernel
theorem dL_law_452 : decode cL_law 452 = .ok (.aload_n 0, 1) := by decide +kernel
theorem dL_law_453 : decode cL_law 453 = .ok (.iload 4, 2) := by decide +kernel
theorem dL_law_455 : decode cL_law 455 = .ok (.iconst 2, 1) := by decide +kernel
theorem dL_law_456 : decode cL_law 456 = .ok (.iadd, 1) := by decide +kernel
theorem dL_law_457 : decode cL_law 457 = .ok (.iaload, 1) := by decide +kernel
theorem dL_law_458 : decode cL_law 458 = .ok (.invokevirtual 69, 3) := by decide +kernel
theorem dL_law_461 : decode cL_law 461 = .ok (.aload_n 2, 1) := by decide +kernel
theorem dL_law_462 : decode cL_law 462 = .ok (.aload_n 0, 1) := by decide +kernel
theorem dL_law_463 : decode cL_law 463 = .ok (.iload 4, 2) := by decide +kernel
theorem dL_law_465 : decode cL_law 465 = .ok (.iconst 1, 1) := by decide +kernel
theorem dL_law_466 : decode cL_law 466 = .ok (.iadd, 1) := by decide +kernel
theorem dL_law_467 : decode cL_law 467 = .ok (.iaload, 1) := by decide +kernel
theorem dL_law_468 : decode cL_law 468 = .ok (.aload_n 0, 1) := by decide +kernel
theorem dL_law_469 : decode cL_law 469 = .ok (.iload 4, 2) := by decide +kernel
theorem dL_law_471 : decode cL_law 471 = .ok (.iconst 2, 1) := by decide +kernel
theorem dL_law_472 : decode cL_law 472 = .ok (.iadd, 1) := by decide +kernel
theorem dL_law_473 : decode cL_law 473 = .ok (.iaload, 1) := by decide +kernel
theorem dL_law_474 : decode cL_law 474 = .ok (.invokevirtual 72, 3) := by decide +kernel
theorem dL_law_477 : decode cL_law 477 = .ok (.if_icmp .eq 281, 3) := by decide +kernel
theorem dL_law_480 : decode cL_law 480 = .ok (.iconst 0, 1) := by decide +kernel
theorem dL_law_481 : decode cL_law 481 = .ok (.ireturn, 1) := by decide +kernel
theorem dL_law_482 : decode cL_law 482 = .ok (.aload_n 1, 1) := by decide +kernel
theorem dL_law_483 : decode cL_law 483 = .ok (.aload_n 0, 1) := by decide +kernel
theorem dL_law_484 : decode cL_law 484 = .ok (.iload 4, 2) := by decide +kernel
theorem dL_law_486 : decode cL_law 486 = .ok (.iconst 1, 1) := by decide +kernel
theorem dL_law_487 : decode cL_law 487 = .ok (.iadd, 1) := by decide +kernel
theorem dL_law_488 : decode cL_law 488 = .ok (.iaload, 1) := by decide +kernel
theorem dL_law_489 : decode cL_law 489 = .ok (.aload_n 0, 1) := by decide +kernel
theorem dL_law_490 : decode cL_law 490 = .ok (.iload 4, 2) := by decide +kernel
theorem dL_law_492 : decode cL_law 492 = .ok (.iconst 2, 1) := by decide +kernel
theorem dL_law_493 : decode cL_law 493 = .ok (.iadd, 1) := by decide +kernel
theorem dL_law_494 : decode cL_law 494 = .ok (.iaload, 1) := by decide +kernel
theorem dL_law_495 : decode cL_law 495 = .ok (.aload_n 3, 1) := by decide +kernel
theorem dL_law_496 : decode cL_law 496 = .ok (.invokestatic 73, 3) := by decide +kernel
theorem dL_law_499 : decode cL_law 499 = .ok (.istore 5, 2) := by decide +kernel
theorem dL_law_501 : decode cL_law 501 = .ok (.aload_n 2, 1) := by decide +kernel
theorem dL_law_502 : decode cL_law 502 = .ok (.aload_n 0, 1) := by decide +kernel
theorem dL_law_503 : decode cL_law 503 = .ok (.iload 4, 2) := by decide +kernel
theorem dL_law_505 : decode cL_law 505 = .ok (.iconst 1, 1) := by decide +kernel
theorem dL_law_506 : decode cL_law 506 = .ok (.iadd, 1) := by decide +kernel
theorem dL_law_507 : decode cL_law 507 = .ok (.iaload, 1) := by decide +kernel
theorem dL_law_508 : decode cL_law 508 = .ok (.aload_n 0, 1) := by decide +kernel
theorem dL_law_509 : decode cL_law 509 = .ok (.iload 4, 2) := by decide +kernel
theorem dL_law_511 : decode cL_law 511 = .ok (.iconst 2, 1) := by decide +kernel
theorem dL_law_512 : decode cL_law 512 = .ok (.iadd, 1) := by decide +kernel
theorem dL_law_513 : decode cL_law 513 = .ok (.iaload, 1) := by decide +kernel
theorem dL_law_514 : decode cL_law 514 = .ok (.invokevirtual 75, 3) := by decide +kernel
theorem dL_law_517 : decode cL_law 517 = .ok (.lstore 6, 2) := by decide +kernel
theorem dL_law_519 : decode cL_law 519 = .ok (.aload_n 2, 1) := by decide +kernel
theorem dL_law_520 : decode cL_law 520 = .ok (.invokevirtual 44, 3) := by decide +kernel
theorem dL_law_523 : decode cL_law 523 = .ok (.iload 5, 2) := by decide +kernel
theorem dL_law_525 : decode cL_law 525 = .ok (.if_icmp .eq 5, 3) := by decide +kernel
theorem dL_law_528 : decode cL_law 528 = .ok (.iconst 0, 1) := by decide +kernel
theorem dL_law_529 : decode cL_law 529 = .ok (.ireturn, 1) := by decide +kernel
theorem dL_law_530 : decode cL_law 530 = .ok (.iload 5, 2) := by decide +kernel
theorem dL_law_532 : decode cL_law 532 = .ok (.ifCond .ne 14, 3) := by decide +kernel
theorem dL_law_535 : decode cL_law 535 = .ok (.aload_n 3, 1) := by decide +kernel
theorem dL_law_536 : decode cL_law 536 = .ok (.iconst 0, 1) := by decide +kernel
theorem dL_law_537 : decode cL_law 537 = .ok (.laload, 1) := by decide +kernel
theorem dL_law_538 : decode cL_law 538 = .ok (.lload 6, 2) := by decide +kernel
theorem dL_law_540 : decode cL_law 540 = .ok (.lcmp, 1) := by decide +kernel
theorem dL_law_541 : decode cL_law 541 = .ok (.ifCond .eq 5, 3) := by decide +kernel
theorem dL_law_544 : decode cL_law 544 = .ok (.iconst 0, 1) := by decide +kernel
theorem dL_law_545 : decode cL_law 545 = .ok (.ireturn, 1) := by decide +kernel
theorem dL_law_546 : decode cL_law 546 = .ok (.goto 212, 3) := by decide +kernel
theorem dL_law_549 : decode cL_law 549 = .ok (.aload_n 1, 1) := by decide +kernel
theorem dL_law_550 : decode cL_law 550 = .ok (.aload_n 0, 1) := by decide +kernel
theorem dL_law_551 : decode cL_law 551 = .ok (.iload 4, 2) := by decide +kernel
theorem dL_law_553 : decode cL_law 553 = .ok (.iconst 1, 1) := by decide +kernel
theorem dL_law_554 : decode cL_law 554 = .ok (.iadd, 1) := by decide +kernel
theorem dL_law_555 : decode cL_law 555 = .ok (.iaload, 1) := by decide +kernel
theorem dL_law_556 : decode cL_law 556 = .ok (.aload_n 0, 1) := by decide +kernel
theorem dL_law_557 : decode cL_law 557 = .ok (.iload 4, 2) := by decide +kernel
theorem dL_law_559 : decode cL_law 559 = .ok (.iconst 2, 1) := by decide +kernel
theorem dL_law_560 : decode cL_law 560 = .ok (.iadd, 1) := by decide +kernel
theorem dL_law_561 : decode cL_law 561 = .ok (.iaload, 1) := by decide +kernel
theorem dL_law_562 : decode cL_law 562 = .ok (.aload_n 3, 1) := by decide +kernel
theorem dL_law_563 : decode cL_law 563 = .ok (.invokestatic 76, 3) := by decide +kernel
theorem dL_law_566 : decode cL_law 566 = .ok (.istore 5, 2) := by decide +kernel
theorem dL_law_568 : decode cL_law 568 = .ok (.aload_n 2, 1) := by decide +kernel
theorem dL_law_569 : decode cL_law 569 = .ok (.aload_n 0, 1) := by decide +kernel
theorem dL_law_570 : decode cL_law 570 = .ok (.iload 4, 2) := by decide +kernel
theorem dL_law_572 : decode cL_law 572 = .ok (.iconst 1, 1) := by decide +kernel
theorem dL_law_573 : decode cL_law 573 = .ok (.iadd, 1) := by decide +kernel
theorem dL_law_574 : decode cL_law 574 = .ok (.iaload, 1) := by decide +kernel
theorem dL_law_575 : decode cL_law 575 = .ok (.aload_n 0, 1) := by decide +kernel
theorem dL_law_576 : decode cL_law 576 = .ok (.iload 4, 2) := by decide +kernel
theorem dL_law_578 : decode cL_law 578 = .ok (.iconst 2, 1) := by decide +kernel
theorem dL_law_579 : decode cL_law 579 = .ok (.iadd, 1) := by decide +kernel
theorem dL_law_580 : decode cL_law 580 = .ok (.iaload, 1) := by decide +kernel
theorem dL_law_581 : decode cL_law 581 = .ok (.invokevirtual 78, 3) := by decide +kernel
theorem dL_law_584 : decode cL_law 584 = .ok (.istore 6, 2) := by decide +kernel
theorem dL_law_586 : decode cL_law 586 = .ok (.aload_n 2, 1) := by decide +kernel
theorem dL_law_587 : decode cL_law 587 = .ok (.invokevirtual 44, 3) := by decide +kernel
theorem dL_law_590 : decode cL_law 590 = .ok (.iload 5, 2) := by decide +kernel
theorem dL_law_592 : decode cL_law 592 = .ok (.if_icmp .eq 5, 3) := by decide +kernel
theorem dL_law_595 : decode cL_law 595 = .ok (.iconst 0, 1) := by decide +kernel
theorem dL_law_596 : decode cL_law 596 = .ok (.ireturn, 1) := by decide +kernel
theorem dL_law_597 : decode cL_law 597 = .ok (.iload 5, 2) := by decide +kernel
theorem dL_law_599 : decode cL_law 599 = .ok (.ifCond .ne 15, 3) := by decide +kernel
theorem dL_law_602 : decode cL_law 602 = .ok (.aload_n 3, 1) := by decide +kernel
theorem dL_law_603 : decode cL_law 603 = .ok (.iconst 0, 1) := by decide +kernel
theorem dL_law_604 : decode cL_law 604 = .ok (.laload, 1) := by decide +kernel
theorem dL_law_605 : decode cL_law 605 = .ok (.iload 6, 2) := by decide +kernel
theorem dL_law_607 : decode cL_law 607 = .ok (.i2l, 1) := by decide +kernel
theorem dL_law_608 : decode cL_law 608 = .ok (.lcmp, 1) := by decide +kernel
theorem dL_law_609 : decode cL_law 609 = .ok (.ifCond .eq 5, 3) := by decide +kernel
theorem dL_law_612 : decode cL_law 612 = .ok (.iconst 0, 1) := by decide +kernel
theorem dL_law_613 : decode cL_law 613 = .ok (.ireturn, 1) := by decide +kernel
theorem dL_law_614 : decode cL_law 614 = .ok (.goto 144, 3) := by decide +kernel
theorem dL_law_617 : decode cL_law 617 = .ok (.aload_n 1, 1) := by decide +kernel
theorem dL_law_618 : decode cL_law 618 = .ok (.aload_n 0, 1) := by decide +kernel
theorem dL_law_619 : decode cL_law 619 = .ok (.iload 4, 2) := by decide +kernel
theorem dL_law_621 : decode cL_law 621 = .ok (.iconst 1, 1) := by decide +kernel
theorem dL_law_622 : decode cL_law 622 = .ok (.iadd, 1) := by decide +kernel
theorem dL_law_623 : decode cL_law 623 = .ok (.iaload, 1) := by decide +kernel
theorem dL_law_624 : decode cL_law 624 = .ok (.aload_n 0, 1) := by decide +kernel
theorem dL_law_625 : decode cL_law 625 = .ok (.iload 4, 2) := by decide +kernel
theorem dL_law_627 : decode cL_law 627 = .ok (.iconst 2, 1) := by decide +kernel
theorem dL_law_628 : decode cL_law 628 = .ok (.iadd, 1) := by decide +kernel
theorem dL_law_629 : decode cL_law 629 = .ok (.iaload, 1) := by decide +kernel
theorem dL_law_630 : decode cL_law 630 = .ok (.aload_n 0, 1) := by decide +kernel
theorem dL_law_631 : decode cL_law 631 = .ok (.iload 4, 2) := by decide +kernel
theorem dL_law_633 : decode cL_law 633 = .ok (.iconst 3, 1) := by decide +kernel
theorem dL_law_634 : decode cL_law 634 = .ok (.iadd, 1) := by decide +kernel
theorem dL_law_635 : decode cL_law 635 = .ok (.iaload, 1) := by decide +kernel
theorem dL_law_636 : decode cL_law 636 = .ok (.aload_n 3, 1) := by decide +kernel
theorem dL_law_637 : decode cL_law 637 = .ok (.invokestatic 79, 3) := by decide +kernel
theorem dL_law_640 : decode cL_law 640 = .ok (.istore 5, 2) := by decide +kernel
theorem dL_law_642 : decode cL_law 642 = .ok (.aload_n 2, 1) := by decide +kernel
theorem dL_law_643 : decode cL_law 643 = .ok (.aload_n 0, 1) := by decide +kernel
theorem dL_law_644 : decode cL_law 644 = .ok (.iload 4, 2) := by decide +kernel
theorem dL_law_646 : decode cL_law 646 = .ok (.iconst 1, 1) := by decide +kernel
theorem dL_law_647 : decode cL_law 647 = .ok (.iadd, 1) := by decide +kernel
theorem dL_law_648 : decode cL_law 648 = .ok (.iaload, 1) := by decide +kernel
theorem dL_law_649 : decode cL_law 649 = .ok (.aload_n 0, 1) := by decide +kernel
theorem dL_law_650 : decode cL_law 650 = .ok (.iload 4, 2) := by decide +kernel
theorem dL_law_652 : decode cL_law 652 = .ok (.iconst 2, 1) := by decide +kernel
theorem dL_law_653 : decode cL_law 653 = .ok (.iadd, 1) := by decide +kernel
theorem dL_law_654 : decode cL_law 654 = .ok (.iaload, 1) := by decide +kernel
theorem dL_law_655 : decode cL_law 655 = .ok (.aload_n 0, 1) := by decide +kernel
theorem dL_law_656 : decode cL_law 656 = .ok (.iload 4, 2) := by decide +kernel
theorem dL_law_658 : decode cL_law 658 = .ok (.iconst 3, 1) := by decide +kernel
theorem dL_law_659 : decode cL_law 659 = .ok (.iadd, 1) := by decide +kernel
theorem dL_law_660 : decode cL_law 660 = .ok (.iaload, 1) := by decide +kernel
theorem dL_law_661 : decode cL_law 661 = .ok (.invokevirtual 82, 3) := by decide +kernel
theorem dL_law_664 : decode cL_law 664 = .ok (.lstore 6, 2) := by decide +kernel
theorem dL_law_666 : decode cL_law 666 = .ok (.aload_n 2, 1) := by decide +kernel
theorem dL_law_667 : decode cL_law 667 = .ok (.invokevirtual 44, 3) := by decide +kernel
theorem dL_law_670 : decode cL_law 670 = .ok (.iload 5, 2) := by decide +kernel
theorem dL_law_672 : decode cL_law 672 = .ok (.if_icmp .eq 5, 3) := by decide +kernel
theorem dL_law_675 : decode cL_law 675 = .ok (.iconst 0, 1) := by decide +kernel
theorem dL_law_676 : decode cL_law 676 = .ok (.ireturn, 1) := by decide +kernel
theorem dL_law_677 : decode cL_law 677 = .ok (.iload 5, 2) := by decide +kernel
theorem dL_law_679 : decode cL_law 679 = .ok (.ifCond .ne 14, 3) := by decide +kernel
theorem dL_law_682 : decode cL_law 682 = .ok (.aload_n 3, 1) := by decide +kernel
theorem dL_law_683 : decode cL_law 683 = .ok (.iconst 0, 1) := by decide +kernel
theorem dL_law_684 : decode cL_law 684 = .ok (.laload, 1) := by decide +kernel
theorem dL_law_685 : decode cL_law 685 = .ok (.lload 6, 2) := by decide +kernel
theorem dL_law_687 : decode cL_law 687 = .ok (.lcmp, 1) := by decide +kernel
theorem dL_law_688 : decode cL_law 688 = .ok (.ifCond .eq 5, 3) := by decide +kernel
theorem dL_law_691 : decode cL_law 691 = .ok (.iconst 0, 1) := by decide +kernel
theorem dL_law_692 : decode cL_law 692 = .ok (.ireturn, 1) := by decide +kernel
theorem dL_law_693 : decode cL_law 693 = .ok (.goto 65, 3) := by decide +kernel
theorem dL_law_696 : decode cL_law 696 = .ok (.aload_n 1, 1) := by decide +kernel
theorem dL_law_697 : decode cL_law 697 = .ok (.aload_n 0, 1) := by decide +kernel
theorem dL_law_698 : decode cL_law 698 = .ok (.iload 4, 2) := by decide +kernel
theorem dL_law_700 : decode cL_law 700 = .ok (.iconst 1, 1) := by decide +kernel
theorem dL_law_701 : decode cL_law 701 = .ok (.iadd, 1) := by decide +kernel
theorem dL_law_702 : decode cL_law 702 = .ok (.iaload, 1) := by decide +kernel
theorem dL_law_703 : decode cL_law 703 = .ok (.aload_n 0, 1) := by decide +kernel
theorem dL_law_704 : decode cL_law 704 = .ok (.iload 4, 2) := by decide +kernel
theorem dL_law_706 : decode cL_law 706 = .ok (.iconst 2, 1) := by decide +kernel
theorem dL_law_707 : decode cL_law 707 = .ok (.iadd, 1) := by decide +kernel
theorem dL_law_708 : decode cL_law 708 = .ok (.iaload, 1) := by decide +kernel
theorem dL_law_709 : decode cL_law 709 = .ok (.invokevirtual 83, 3) := by decide +kernel
theorem dL_law_712 : decode cL_law 712 = .ok (.aload_n 2, 1) := by decide +kernel
theorem dL_law_713 : decode cL_law 713 = .ok (.aload_n 0, 1) := by decide +kernel
theorem dL_law_714 : decode cL_law 714 = .ok (.iload 4, 2) := by decide +kernel
theorem dL_law_716 : decode cL_law 716 = .ok (.iconst 1, 1) := by decide +kernel
theorem dL_law_717 : decode cL_law 717 = .ok (.iadd, 1) := by decide +kernel
theorem dL_law_718 : decode cL_law 718 = .ok (.iaload, 1) := by decide +kernel
theorem dL_law_719 : decode cL_law 719 = .ok (.aload_n 0, 1) := by decide +kernel
theorem dL_law_720 : decode cL_law 720 = .ok (.iload 4, 2) := by decide +kernel
theorem dL_law_722 : decode cL_law 722 = .ok (.iconst 2, 1) := by decide +kernel
theorem dL_law_723 : decode cL_law 723 = .ok (.iadd, 1) := by decide +kernel
theorem dL_law_724 : decode cL_law 724 = .ok (.iaload, 1) := by decide +kernel
theorem dL_law_725 : decode cL_law 725 = .ok (.invokevirtual 86, 3) := by decide +kernel
theorem dL_law_728 : decode cL_law 728 = .ok (.if_icmp .eq 30, 3) := by decide +kernel
theorem dL_law_731 : decode cL_law 731 = .ok (.iconst 0, 1) := by decide +kernel
theorem dL_law_732 : decode cL_law 732 = .ok (.ireturn, 1) := by decide +kernel
theorem dL_law_733 : decode cL_law 733 = .ok (.aload_n 1, 1) := by decide +kernel
theorem dL_law_734 : decode cL_law 734 = .ok (.aload_n 0, 1) := by decide +kernel
theorem dL_law_735 : decode cL_law 735 = .ok (.iload 4, 2) := by decide +kernel
theorem dL_law_737 : decode cL_law 737 = .ok (.iconst 1, 1) := by decide +kernel
theorem dL_law_738 : decode cL_law 738 = .ok (.iadd, 1) := by decide +kernel
theorem dL_law_739 : decode cL_law 739 = .ok (.iaload, 1) := by decide +kernel
theorem dL_law_740 : decode cL_law 740 = .ok (.invokevirtual 87, 3) := by decide +kernel
theorem dL_law_743 : decode cL_law 743 = .ok (.aload_n 2, 1) := by decide +kernel
theorem dL_law_744 : decode cL_law 744 = .ok (.aload_n 0, 1) := by decide +kernel
theorem dL_law_745 : decode cL_law 745 = .ok (.iload 4, 2) := by decide +kernel
theorem dL_law_747 : decode cL_law 747 = .ok (.iconst 1, 1) := by decide +kernel
theorem dL_law_748 : decode cL_law 748 = .ok (.iadd, 1) := by decide +kernel
theorem dL_law_749 : decode cL_law 749 = .ok (.iaload, 1) := by decide +kernel
theorem dL_law_750 : decode cL_law 750 = .ok (.invokevirtual 91, 3) := by decide +kernel
theorem dL_law_753 : decode cL_law 753 = .ok (.if_icmp .eq 5, 3) := by decide +kernel
theorem dL_law_756 : decode cL_law 756 = .ok (.iconst 0, 1) := by decide +kernel
theorem dL_law_757 : decode cL_law 757 = .ok (.ireturn, 1) := by decide +kernel
theorem dL_law_758 : decode cL_law 758 = .ok (.iinc 4 5, 3) := by decide +kernel
theorem dL_law_761 : decode cL_law 761 = .ok (.goto (-738), 3) := by decide +kernel
theorem dL_law_764 : decode cL_law 764 = .ok (.iconst 1, 1) := by decide +kernel
theorem dL_law_765 : decode cL_law 765 = .ok (.ireturn, 1) := by decide +kernel
