theorem dX9_init_0 : decode cX9_init 0 = .ok (.aload_n 0, 1) := by decide +kernel
theorem dX9_init_1 : decode cX9_init 1 = .ok (.invokespecial 3, 3) := by decide +kernel
theorem dX9_init_4 : decode cX9_init 4 = .ok (.aload_n 0, 1) := by decide +kernel
theorem dX9_init_5 : decode cX9_init 5 = .ok (.bipush 7, 2) := by decide +kernel
theorem dX9_init_7 : decode cX9_init 7 = .ok (.anewarray 9, 3) := by decide +kernel
theorem dX9_init_10 : decode cX9_init 10 = .ok (.putfield 11, 3) := by decide +kernel
theorem dX9_init_13 : decode cX9_init 13 = .ok (.aload_n 0, 1) := by decide +kernel
theorem dX9_init_14 : decode cX9_init 14 = .ok (.bipush 7, 2) := by decide +kernel
theorem dX9_init_16 : decode cX9_init 16 = .ok (.anewarray 15, 3) := by decide +kernel
theorem dX9_init_19 : decode cX9_init 19 = .ok (.putfield 17, 3) := by decide +kernel
theorem dX9_init_22 : decode cX9_init 22 = .ok (.aload_n 0, 1) := by decide +kernel
theorem dX9_init_23 : decode cX9_init 23 = .ok (.bipush 6, 2) := by decide +kernel
theorem dX9_init_25 : decode cX9_init 25 = .ok (.anewarray 21, 3) := by decide +kernel
theorem dX9_init_28 : decode cX9_init 28 = .ok (.putfield 23, 3) := by decide +kernel
theorem dX9_init_31 : decode cX9_init 31 = .ok (.aload_n 0, 1) := by decide +kernel
theorem dX9_init_32 : decode cX9_init 32 = .ok (.iconst 4, 1) := by decide +kernel
theorem dX9_init_33 : decode cX9_init 33 = .ok (.anewarray 27, 3) := by decide +kernel
theorem dX9_init_36 : decode cX9_init 36 = .ok (.putfield 29, 3) := by decide +kernel
theorem dX9_init_39 : decode cX9_init 39 = .ok (.aload_n 0, 1) := by decide +kernel
theorem dX9_init_40 : decode cX9_init 40 = .ok (.new 33, 3) := by decide +kernel
theorem dX9_init_43 : decode cX9_init 43 = .ok (.dup, 1) := by decide +kernel
theorem dX9_init_44 : decode cX9_init 44 = .ok (.invokespecial 35, 3) := by decide +kernel
theorem dX9_init_47 : decode cX9_init 47 = .ok (.putfield 36, 3) := by decide +kernel
theorem dX9_init_50 : decode cX9_init 50 = .ok (.aload_n 0, 1) := by decide +kernel
theorem dX9_init_51 : decode cX9_init 51 = .ok (.new 40, 3) := by decide +kernel
theorem dX9_init_54 : decode cX9_init 54 = .ok (.dup, 1) := by decide +kernel
theorem dX9_init_55 : decode cX9_init 55 = .ok (.invokespecial 42, 3) := by decide +kernel
theorem dX9_init_58 : decode cX9_init 58 = .ok (.putfield 43, 3) := by decide +kernel
theorem dX9_init_61 : decode cX9_init 61 = .ok (.aload_n 0, 1) := by decide +kernel
theorem dX9_init_62 : decode cX9_init 62 = .ok (.new 47, 3) := by decide +kernel
theorem dX9_init_65 : decode cX9_init 65 = .ok (.dup, 1) := by decide +kernel
theorem dX9_init_66 : decode cX9_init 66 = .ok (.invokespecial 49, 3) := by decide +kernel
theorem dX9_init_69 : decode cX9_init 69 = .ok (.putfield 50, 3) := by decide +kernel
theorem dX9_init_72 : decode cX9_init 72 = .ok (.aload_n 0, 1) := by decide +kernel
theorem dX9_init_73 : decode cX9_init 73 = .ok (.new 54, 3) := by decide +kernel
theorem dX9_init_76 : decode cX9_init 76 = .ok (.dup, 1) := by decide +kernel
theorem dX9_init_77 : decode cX9_init 77 = .ok (.invokespecial 56, 3) := by decide +kernel
theorem dX9_init_80 : decode cX9_init 80 = .ok (.putfield 57, 3) := by decide +kernel
theorem dX9_init_83 : decode cX9_init 83 = .ok (.aload_n 0, 1) := by decide +kernel
theorem dX9_init_84 : decode cX9_init 84 = .ok (.new 61, 3) := by decide +kernel
theorem dX9_init_87 : decode cX9_init 87 = .ok (.dup, 1) := by decide +kernel
theorem dX9_init_88 : decode cX9_init 88 = .ok (.invokespecial 63, 3) := by decide +kernel
theorem dX9_init_91 : decode cX9_init 91 = .ok (.putfield 64, 3) := by decide +kernel
theorem dX9_init_94 : decode cX9_init 94 = .ok (.aload_n 0, 1) := by decide +kernel
theorem dX9_init_95 : decode cX9_init 95 = .ok (.new 61, 3) := by decide +kernel
theorem dX9_init_98 : decode cX9_init 98 = .ok (.dup, 1) := by decide +kernel
theorem dX9_init_99 : decode cX9_init 99 = .ok (.invokespecial 63, 3) := by decide +kernel
theorem dX9_init_102 : decode cX9_init 102 = .ok (.putfield 68, 3) := by decide +kernel
theorem dX9_init_105 : decode cX9_init 105 = .ok (.iconst 0, 1) := by decide +kernel
theorem dX9_init_106 : decode cX9_init 106 = .ok (.istore_n 1, 1) := by decide +kernel
theorem dX9_init_107 : decode cX9_init 107 = .ok (.iload_n 1, 1) := by decide +kernel
theorem dX9_init_108 : decode cX9_init 108 = .ok (.bipush 7, 2) := by decide +kernel
theorem dX9_init_110 : decode cX9_init 110 = .ok (.if_icmp .ge 22, 3) := by decide +kernel
theorem dX9_init_113 : decode cX9_init 113 = .ok (.aload_n 0, 1) := by decide +kernel
theorem dX9_init_114 : decode cX9_init 114 = .ok (.getfield 11, 3) := by decide +kernel
theorem dX9_init_117 : decode cX9_init 117 = .ok (.iload_n 1, 1) := by decide +kernel
theorem dX9_init_118 : decode cX9_init 118 = .ok (.new 9, 3) := by decide +kernel
theorem dX9_init_121 : decode cX9_init 121 = .ok (.dup, 1) := by decide +kernel
theorem dX9_init_122 : decode cX9_init 122 = .ok (.invokespecial 71, 3) := by decide +kernel
theorem dX9_init_125 : decode cX9_init 125 = .ok (.aastore, 1) := by decide +kernel
theorem dX9_init_126 : decode cX9_init 126 = .ok (.iinc 1 1, 3) := by decide +kernel
theorem dX9_init_129 : decode cX9_init 129 = .ok (.goto (-22), 3) := by decide +kernel
theorem dX9_init_132 : decode cX9_init 132 = .ok (.iconst 0, 1) := by decide +kernel
theorem dX9_init_133 : decode cX9_init 133 = .ok (.istore_n 1, 1) := by decide +kernel
theorem dX9_init_134 : decode cX9_init 134 = .ok (.iload_n 1, 1) := by decide +kernel
theorem dX9_init_135 : decode cX9_init 135 = .ok (.bipush 7, 2) := by decide +kernel
theorem dX9_init_137 : decode cX9_init 137 = .ok (.if_icmp .ge 22, 3) := by decide +kernel
theorem dX9_init_140 : decode cX9_init 140 = .ok (.aload_n 0, 1) := by decide +kernel
theorem dX9_init_141 : decode cX9_init 141 = .ok (.getfield 17, 3) := by decide +kernel
theorem dX9_init_144 : decode cX9_init 144 = .ok (.iload_n 1, 1) := by decide +kernel
theorem dX9_init_145 : decode cX9_init 145 = .ok (.new 15, 3) := by decide +kernel
theorem dX9_init_148 : decode cX9_init 148 = .ok (.dup, 1) := by decide +kernel
theorem dX9_init_149 : decode cX9_init 149 = .ok (.invokespecial 72, 3) := by decide +kernel
theorem dX9_init_152 : decode cX9_init 152 = .ok (.aastore, 1) := by decide +kernel
theorem dX9_init_153 : decode cX9_init 153 = .ok (.iinc 1 1, 3) := by decide +kernel
theorem dX9_init_156 : decode cX9_init 156 = .ok (.goto (-22), 3) := by decide +kernel
theorem dX9_init_159 : decode cX9_init 159 = .ok (.iconst 0, 1) := by decide +kernel
theorem dX9_init_160 : decode cX9_init 160 = .ok (.istore_n 1, 1) := by decide +kernel
theorem dX9_init_161 : decode cX9_init 161 = .ok (.iload_n 1, 1) := by decide +kernel
theorem dX9_init_162 : decode cX9_init 162 = .ok (.bipush 6, 2) := by decide +kernel
theorem dX9_init_164 : decode cX9_init 164 = .ok (.if_icmp .ge 22, 3) := by decide +kernel
theorem dX9_init_167 : decode cX9_init 167 = .ok (.aload_n 0, 1) := by decide +kernel
theorem dX9_init_168 : decode cX9_init 168 = .ok (.getfield 23, 3) := by decide +kernel
theorem dX9_init_171 : decode cX9_init 171 = .ok (.iload_n 1, 1) := by decide +kernel
theorem dX9_init_172 : decode cX9_init 172 = .ok (.new 21, 3) := by decide +kernel
theorem dX9_init_175 : decode cX9_init 175 = .ok (.dup, 1) := by decide +kernel
theorem dX9_init_176 : decode cX9_init 176 = .ok (.invokespecial 73, 3) := by decide +kernel
theorem dX9_init_179 : decode cX9_init 179 = .ok (.aastore, 1) := by decide +kernel
theorem dX9_init_180 : decode cX9_init 180 = .ok (.iinc 1 1, 3) := by decide +kernel
theorem dX9_init_183 : decode cX9_init 183 = .ok (.goto (-22), 3) := by decide +kernel
theorem dX9_init_186 : decode cX9_init 186 = .ok (.iconst 0, 1) := by decide +kernel
theorem dX9_init_187 : decode cX9_init 187 = .ok (.istore_n 1, 1) := by decide +kernel
theorem dX9_init_188 : decode cX9_init 188 = .ok (.iload_n 1, 1) := by decide +kernel
theorem dX9_init_189 : decode cX9_init 189 = .ok (.iconst 4, 1) := by decide +kernel
theorem dX9_init_190 : decode cX9_init 190 = .ok (.if_icmp .ge 22, 3) := by decide +kernel
theorem dX9_init_193 : decode cX9_init 193 = .ok (.aload_n 0, 1) := by decide +kernel
theorem dX9_init_194 : decode cX9_init 194 = .ok (.getfield 29, 3) := by decide +kernel
theorem dX9_init_197 : decode cX9_init 197 = .ok (.iload_n 1, 1) := by decide +kernel
theorem dX9_init_198 : decode cX9_init 198 = .ok (.new 27, 3) := by decide +kernel
theorem dX9_init_201 : decode cX9_init 201 = .ok (.dup, 1) := by decide +kernel
theorem dX9_init_202 : decode cX9_init 202 = .ok (.invokespecial 74, 3) := by decide +kernel
theorem dX9_init_205 : decode cX9_init 205 = .ok (.aastore, 1) := by decide +kernel
theorem dX9_init_206 : decode cX9_init 206 = .ok (.iinc 1 1, 3) := by decide +kernel
theorem dX9_init_209 : decode cX9_init 209 = .ok (.goto (-21), 3) := by decide +kernel
theorem dX9_init_212 : decode cX9_init 212 = .ok (.aload_n 0, 1) := by decide +kernel
theorem dX9_init_213 : decode cX9_init 213 = .ok (.getfield 64, 3) := by decide +kernel
theorem dX9_init_216 : decode cX9_init 216 = .ok (.bipush 9, 2) := by decide +kernel
theorem dX9_init_218 : decode cX9_init 218 = .ok (.putfield 75, 3) := by decide +kernel
theorem dX9_init_221 : decode cX9_init 221 = .ok (.iconst 0, 1) := by decide +kernel
theorem dX9_init_222 : decode cX9_init 222 = .ok (.istore_n 1, 1) := by decide +kernel
theorem dX9_init_223 : decode cX9_init 223 = .ok (.iload_n 1, 1) := by decide +kernel
theorem dX9_init_224 : decode cX9_init 224 = .ok (.ldc 79, 2) := by decide +kernel
theorem dX9_init_226 : decode cX9_init 226 = .ok (.invokevirtual 81, 3) := by decide +kernel
theorem dX9_init_229 : decode cX9_init 229 = .ok (.if_icmp .ge 23, 3) := by decide +kernel
theorem dX9_init_232 : decode cX9_init 232 = .ok (.aload_n 0, 1) := by decide +kernel
theorem dX9_init_233 : decode cX9_init 233 = .ok (.getfield 36, 3) := by decide +kernel
theorem dX9_init_236 : decode cX9_init 236 = .ok (.ldc 79, 2) := by decide +kernel
theorem dX9_init_238 : decode cX9_init 238 = .ok (.iload_n 1, 1) := by decide +kernel
theorem dX9_init_239 : decode cX9_init 239 = .ok (.invokevirtual 87, 3) := by decide +kernel
theorem dX9_init_242 : decode cX9_init 242 = .ok (.invokevirtual 91, 3) := by decide +kernel
theorem dX9_init_245 : decode cX9_init 245 = .ok (.pop, 1) := by decide +kernel
theorem dX9_init_246 : decode cX9_init 246 = .ok (.iinc 1 1, 3) := by decide +kernel
theorem dX9_init_249 : decode cX9_init 249 = .ok (.goto (-26), 3) := by decide +kernel
theorem dX9_init_252 : decode cX9_init 252 = .ok (.aload_n 0, 1) := by decide +kernel
theorem dX9_init_253 : decode cX9_init 253 = .ok (.getfield 36, 3) := by decide +kernel
theorem dX9_init_256 : decode cX9_init 256 = .ok (.aload_n 0, 1) := by decide +kernel
theorem dX9_init_257 : decode cX9_init 257 = .ok (.getfield 23, 3) := by decide +kernel
theorem dX9_init_260 : decode cX9_init 260 = .ok (.iconst 0, 1) := by decide +kernel
theorem dX9_init_261 : decode cX9_init 261 = .ok (.aaload, 1) := by decide +kernel
theorem dX9_init_262 : decode cX9_init 262 = .ok (.invokevirtual 95, 3) := by decide +kernel
theorem dX9_init_265 : decode cX9_init 265 = .ok (.pop, 1) := by decide +kernel
theorem dX9_init_266 : decode cX9_init 266 = .ok (.aload_n 0, 1) := by decide +kernel
theorem dX9_init_267 : decode cX9_init 267 = .ok (.iconst 1, 1) := by decide +kernel
theorem dX9_init_268 : decode cX9_init 268 = .ok (.putfield 99, 3) := by decide +kernel
theorem dX9_init_271 : decode cX9_init 271 = .ok (.return_, 1) := by decide +kernel
theorem dX9_buyer_0 : decode cX9_buyer 0 = .ok (.iload_n 1, 1) := by decide +kernel
theorem dX9_buyer_1 : decode cX9_buyer 1 = .ok (.iconst 5, 1) := by decide +kernel
theorem dX9_buyer_2 : decode cX9_buyer 2 = .ok (.invokestatic 102, 3) := by decide +kernel
theorem dX9_buyer_5 : decode cX9_buyer 5 = .ok (.ifCond .eq 23, 3) := by decide +kernel
theorem dX9_buyer_8 : decode cX9_buyer 8 = .ok (.iload_n 2, 1) := by decide +kernel
theorem dX9_buyer_9 : decode cX9_buyer 9 = .ok (.sipush 5199, 3) := by decide +kernel
theorem dX9_buyer_12 : decode cX9_buyer 12 = .ok (.invokestatic 102, 3) := by decide +kernel
theorem dX9_buyer_15 : decode cX9_buyer 15 = .ok (.ifCond .eq 13, 3) := by decide +kernel
theorem dX9_buyer_18 : decode cX9_buyer 18 = .ok (.iload_n 3, 1) := by decide +kernel
theorem dX9_buyer_19 : decode cX9_buyer 19 = .ok (.sipush 999, 3) := by decide +kernel
theorem dX9_buyer_22 : decode cX9_buyer 22 = .ok (.invokestatic 102, 3) := by decide +kernel
theorem dX9_buyer_25 : decode cX9_buyer 25 = .ok (.ifCond .ne 6, 3) := by decide +kernel
theorem dX9_buyer_28 : decode cX9_buyer 28 = .ok (.bipush (-2), 2) := by decide +kernel
theorem dX9_buyer_30 : decode cX9_buyer 30 = .ok (.ireturn, 1) := by decide +kernel
theorem dX9_buyer_31 : decode cX9_buyer 31 = .ok (.aload_n 0, 1) := by decide +kernel
theorem dX9_buyer_32 : decode cX9_buyer 32 = .ok (.getfield 106, 3) := by decide +kernel
theorem dX9_buyer_35 : decode cX9_buyer 35 = .ok (.bipush 7, 2) := by decide +kernel
theorem dX9_buyer_37 : decode cX9_buyer 37 = .ok (.if_icmp .lt 6, 3) := by decide +kernel
theorem dX9_buyer_40 : decode cX9_buyer 40 = .ok (.bipush (-4), 2) := by decide +kernel
theorem dX9_buyer_42 : decode cX9_buyer 42 = .ok (.ireturn, 1) := by decide +kernel
theorem dX9_buyer_43 : decode cX9_buyer 43 = .ok (.aload_n 0, 1) := by decide +kernel
theorem dX9_buyer_44 : decode cX9_buyer 44 = .ok (.getfield 11, 3) := by decide +kernel
theorem dX9_buyer_47 : decode cX9_buyer 47 = .ok (.aload_n 0, 1) := by decide +kernel
theorem dX9_buyer_48 : decode cX9_buyer 48 = .ok (.getfield 106, 3) := by decide +kernel
theorem dX9_buyer_51 : decode cX9_buyer 51 = .ok (.aaload, 1) := by decide +kernel
theorem dX9_buyer_52 : decode cX9_buyer 52 = .ok (.astore 4, 2) := by decide +kernel
theorem dX9_buyer_54 : decode cX9_buyer 54 = .ok (.aload 4, 2) := by decide +kernel
theorem dX9_buyer_56 : decode cX9_buyer 56 = .ok (.iload_n 1, 1) := by decide +kernel
theorem dX9_buyer_57 : decode cX9_buyer 57 = .ok (.putfield 109, 3) := by decide +kernel
theorem dX9_buyer_60 : decode cX9_buyer 60 = .ok (.aload 4, 2) := by decide +kernel
theorem dX9_buyer_62 : decode cX9_buyer 62 = .ok (.iload_n 2, 1) := by decide +kernel
theorem dX9_buyer_63 : decode cX9_buyer 63 = .ok (.bipush 100, 2) := by decide +kernel
theorem dX9_buyer_65 : decode cX9_buyer 65 = .ok (.idiv, 1) := by decide +kernel
theorem dX9_buyer_66 : decode cX9_buyer 66 = .ok (.putfield 112, 3) := by decide +kernel
theorem dX9_buyer_69 : decode cX9_buyer 69 = .ok (.aload 4, 2) := by decide +kernel
theorem dX9_buyer_71 : decode cX9_buyer 71 = .ok (.iload_n 3, 1) := by decide +kernel
theorem dX9_buyer_72 : decode cX9_buyer 72 = .ok (.bipush 10, 2) := by decide +kernel
theorem dX9_buyer_74 : decode cX9_buyer 74 = .ok (.irem, 1) := by decide +kernel
theorem dX9_buyer_75 : decode cX9_buyer 75 = .ok (.putfield 115, 3) := by decide +kernel
theorem dX9_buyer_78 : decode cX9_buyer 78 = .ok (.aload_n 0, 1) := by decide +kernel
theorem dX9_buyer_79 : decode cX9_buyer 79 = .ok (.getfield 64, 3) := by decide +kernel
theorem dX9_buyer_82 : decode cX9_buyer 82 = .ok (.getfield 118, 3) := by decide +kernel
theorem dX9_buyer_85 : decode cX9_buyer 85 = .ok (.aload_n 0, 1) := by decide +kernel
theorem dX9_buyer_86 : decode cX9_buyer 86 = .ok (.getfield 106, 3) := by decide +kernel
theorem dX9_buyer_89 : decode cX9_buyer 89 = .ok (.iload_n 2, 1) := by decide +kernel
theorem dX9_buyer_90 : decode cX9_buyer 90 = .ok (.bipush 100, 2) := by decide +kernel
theorem dX9_buyer_92 : decode cX9_buyer 92 = .ok (.irem, 1) := by decide +kernel
theorem dX9_buyer_93 : decode cX9_buyer 93 = .ok (.iastore, 1) := by decide +kernel
theorem dX9_buyer_94 : decode cX9_buyer 94 = .ok (.aload_n 0, 1) := by decide +kernel
theorem dX9_buyer_95 : decode cX9_buyer 95 = .ok (.getfield 64, 3) := by decide +kernel
theorem dX9_buyer_98 : decode cX9_buyer 98 = .ok (.getfield 122, 3) := by decide +kernel
theorem dX9_buyer_101 : decode cX9_buyer 101 = .ok (.aload_n 0, 1) := by decide +kernel
theorem dX9_buyer_102 : decode cX9_buyer 102 = .ok (.getfield 106, 3) := by decide +kernel
theorem dX9_buyer_105 : decode cX9_buyer 105 = .ok (.iload_n 3, 1) := by decide +kernel
theorem dX9_buyer_106 : decode cX9_buyer 106 = .ok (.bipush 10, 2) := by decide +kernel
theorem dX9_buyer_108 : decode cX9_buyer 108 = .ok (.idiv, 1) := by decide +kernel
theorem dX9_buyer_109 : decode cX9_buyer 109 = .ok (.iastore, 1) := by decide +kernel
theorem dX9_buyer_110 : decode cX9_buyer 110 = .ok (.aload_n 0, 1) := by decide +kernel
theorem dX9_buyer_111 : decode cX9_buyer 111 = .ok (.dup, 1) := by decide +kernel
theorem dX9_buyer_112 : decode cX9_buyer 112 = .ok (.getfield 106, 3) := by decide +kernel
theorem dX9_buyer_115 : decode cX9_buyer 115 = .ok (.iconst 1, 1) := by decide +kernel
theorem dX9_buyer_116 : decode cX9_buyer 116 = .ok (.iadd, 1) := by decide +kernel
theorem dX9_buyer_117 : decode cX9_buyer 117 = .ok (.putfield 106, 3) := by decide +kernel
theorem dX9_buyer_120 : decode cX9_buyer 120 = .ok (.aload_n 0, 1) := by decide +kernel
theorem dX9_buyer_121 : decode cX9_buyer 121 = .ok (.getfield 106, 3) := by decide +kernel
theorem dX9_buyer_124 : decode cX9_buyer 124 = .ok (.iconst 1, 1) := by decide +kernel
theorem dX9_buyer_125 : decode cX9_buyer 125 = .ok (.isub, 1) := by decide +kernel
theorem dX9_buyer_126 : decode cX9_buyer 126 = .ok (.ireturn, 1) := by decide +kernel
theorem dX9_thing_0 : decode cX9_thing 0 = .ok (.iload_n 1, 1) := by decide +kernel
theorem dX9_thing_1 : decode cX9_thing 1 = .ok (.bipush 9, 2) := by decide +kernel
theorem dX9_thing_3 : decode cX9_thing 3 = .ok (.invokestatic 102, 3) := by decide +kernel
theorem dX9_thing_6 : decode cX9_thing 6 = .ok (.ifCond .eq 13, 3) := by decide +kernel
theorem dX9_thing_9 : decode cX9_thing 9 = .ok (.iload_n 2, 1) := by decide +kernel
theorem dX9_thing_10 : decode cX9_thing 10 = .ok (.sipush 999, 3) := by decide +kernel
theorem dX9_thing_13 : decode cX9_thing 13 = .ok (.invokestatic 102, 3) := by decide +kernel
theorem dX9_thing_16 : decode cX9_thing 16 = .ok (.ifCond .ne 6, 3) := by decide +kernel
theorem dX9_thing_19 : decode cX9_thing 19 = .ok (.bipush (-2), 2) := by decide +kernel
theorem dX9_thing_21 : decode cX9_thing 21 = .ok (.ireturn, 1) := by decide +kernel
theorem dX9_thing_22 : decode cX9_thing 22 = .ok (.aload_n 0, 1) := by decide +kernel
theorem dX9_thing_23 : decode cX9_thing 23 = .ok (.getfield 124, 3) := by decide +kernel
theorem dX9_thing_26 : decode cX9_thing 26 = .ok (.bipush 7, 2) := by decide +kernel
theorem dX9_thing_28 : decode cX9_thing 28 = .ok (.if_icmp .lt 6, 3) := by decide +kernel
theorem dX9_thing_31 : decode cX9_thing 31 = .ok (.bipush (-4), 2) := by decide +kernel
theorem dX9_thing_33 : decode cX9_thing 33 = .ok (.ireturn, 1) := by decide +kernel
theorem dX9_thing_34 : decode cX9_thing 34 = .ok (.aload_n 0, 1) := by decide +kernel
theorem dX9_thing_35 : decode cX9_thing 35 = .ok (.getfield 17, 3) := by decide +kernel
theorem dX9_thing_38 : decode cX9_thing 38 = .ok (.aload_n 0, 1) := by decide +kernel
theorem dX9_thing_39 : decode cX9_thing 39 = .ok (.getfield 124, 3) := by decide +kernel
theorem dX9_thing_42 : decode cX9_thing 42 = .ok (.aaload, 1) := by decide +kernel
theorem dX9_thing_43 : decode cX9_thing 43 = .ok (.iload_n 1, 1) := by decide +kernel
theorem dX9_thing_44 : decode cX9_thing 44 = .ok (.putfield 127, 3) := by decide +kernel
theorem dX9_thing_47 : decode cX9_thing 47 = .ok (.aload_n 0, 1) := by decide +kernel
theorem dX9_thing_48 : decode cX9_thing 48 = .ok (.getfield 17, 3) := by decide +kernel
theorem dX9_thing_51 : decode cX9_thing 51 = .ok (.aload_n 0, 1) := by decide +kernel
theorem dX9_thing_52 : decode cX9_thing 52 = .ok (.getfield 124, 3) := by decide +kernel
theorem dX9_thing_55 : decode cX9_thing 55 = .ok (.aaload, 1) := by decide +kernel
theorem dX9_thing_56 : decode cX9_thing 56 = .ok (.iload_n 2, 1) := by decide +kernel
theorem dX9_thing_57 : decode cX9_thing 57 = .ok (.putfield 130, 3) := by decide +kernel
theorem dX9_thing_60 : decode cX9_thing 60 = .ok (.aload_n 0, 1) := by decide +kernel
theorem dX9_thing_61 : decode cX9_thing 61 = .ok (.getfield 64, 3) := by decide +kernel
theorem dX9_thing_64 : decode cX9_thing 64 = .ok (.getfield 133, 3) := by decide +kernel
theorem dX9_thing_67 : decode cX9_thing 67 = .ok (.aload_n 0, 1) := by decide +kernel
theorem dX9_thing_68 : decode cX9_thing 68 = .ok (.getfield 124, 3) := by decide +kernel
theorem dX9_thing_71 : decode cX9_thing 71 = .ok (.iconst (-1), 1) := by decide +kernel
theorem dX9_thing_72 : decode cX9_thing 72 = .ok (.iastore, 1) := by decide +kernel
theorem dX9_thing_73 : decode cX9_thing 73 = .ok (.aload_n 0, 1) := by decide +kernel
theorem dX9_thing_74 : decode cX9_thing 74 = .ok (.dup, 1) := by decide +kernel
theorem dX9_thing_75 : decode cX9_thing 75 = .ok (.getfield 124, 3) := by decide +kernel
theorem dX9_thing_78 : decode cX9_thing 78 = .ok (.iconst 1, 1) := by decide +kernel
theorem dX9_thing_79 : decode cX9_thing 79 = .ok (.iadd, 1) := by decide +kernel
theorem dX9_thing_80 : decode cX9_thing 80 = .ok (.putfield 124, 3) := by decide +kernel
theorem dX9_thing_83 : decode cX9_thing 83 = .ok (.aload_n 0, 1) := by decide +kernel
theorem dX9_thing_84 : decode cX9_thing 84 = .ok (.getfield 124, 3) := by decide +kernel
theorem dX9_thing_87 : decode cX9_thing 87 = .ok (.iconst 1, 1) := by decide +kernel
theorem dX9_thing_88 : decode cX9_thing 88 = .ok (.isub, 1) := by decide +kernel
theorem dX9_thing_89 : decode cX9_thing 89 = .ok (.ireturn, 1) := by decide +kernel
theorem dX9_set_0 : decode cX9_set 0 = .ok (.iload_n 1, 1) := by decide +kernel
theorem dX9_set_1 : decode cX9_set 1 = .ok (.tableswitch 197 0 4 #[35, 70, 105, 138, 177], 35) := by decide +kernel
theorem dX9_set_36 : decode cX9_set 36 = .ok (.aload_n 0, 1) := by decide +kernel
theorem dX9_set_37 : decode cX9_set 37 = .ok (.iload_n 2, 1) := by decide +kernel
theorem dX9_set_38 : decode cX9_set 38 = .ok (.invokevirtual 136, 3) := by decide +kernel
theorem dX9_set_41 : decode cX9_set 41 = .ok (.ifCond .eq 27, 3) := by decide +kernel
theorem dX9_set_44 : decode cX9_set 44 = .ok (.iload_n 3, 1) := by decide +kernel
theorem dX9_set_45 : decode cX9_set 45 = .ok (.bipush 99, 2) := by decide +kernel
theorem dX9_set_47 : decode cX9_set 47 = .ok (.invokestatic 102, 3) := by decide +kernel
theorem dX9_set_50 : decode cX9_set 50 = .ok (.ifCond .eq 18, 3) := by decide +kernel
theorem dX9_set_53 : decode cX9_set 53 = .ok (.aload_n 0, 1) := by decide +kernel
theorem dX9_set_54 : decode cX9_set 54 = .ok (.getfield 64, 3) := by decide +kernel
theorem dX9_set_57 : decode cX9_set 57 = .ok (.getfield 118, 3) := by decide +kernel
theorem dX9_set_60 : decode cX9_set 60 = .ok (.iload_n 2, 1) := by decide +kernel
theorem dX9_set_61 : decode cX9_set 61 = .ok (.iload_n 3, 1) := by decide +kernel
theorem dX9_set_62 : decode cX9_set 62 = .ok (.invokestatic 139, 3) := by decide +kernel
theorem dX9_set_65 : decode cX9_set 65 = .ok (.goto 5, 3) := by decide +kernel
theorem dX9_set_68 : decode cX9_set 68 = .ok (.bipush (-2), 2) := by decide +kernel
theorem dX9_set_70 : decode cX9_set 70 = .ok (.ireturn, 1) := by decide +kernel
theorem dX9_set_71 : decode cX9_set 71 = .ok (.aload_n 0, 1) := by decide +kernel
theorem dX9_set_72 : decode cX9_set 72 = .ok (.iload_n 2, 1) := by decide +kernel
theorem dX9_set_73 : decode cX9_set 73 = .ok (.invokevirtual 136, 3) := by decide +kernel
theorem dX9_set_76 : decode cX9_set 76 = .ok (.ifCond .eq 27, 3) := by decide +kernel
theorem dX9_set_79 : decode cX9_set 79 = .ok (.iload_n 3, 1) := by decide +kernel
theorem dX9_set_80 : decode cX9_set 80 = .ok (.bipush 99, 2) := by decide +kernel
theorem dX9_set_82 : decode cX9_set 82 = .ok (.invokestatic 102, 3) := by decide +kernel
theorem dX9_set_85 : decode cX9_set 85 = .ok (.ifCond .eq 18, 3) := by decide +kernel
theorem dX9_set_88 : decode cX9_set 88 = .ok (.aload_n 0, 1) := by decide +kernel
theorem dX9_set_89 : decode cX9_set 89 = .ok (.getfield 64, 3) := by decide +kernel
theorem dX9_set_92 : decode cX9_set 92 = .ok (.getfield 122, 3) := by decide +kernel
theorem dX9_set_95 : decode cX9_set 95 = .ok (.iload_n 2, 1) := by decide +kernel
theorem dX9_set_96 : decode cX9_set 96 = .ok (.iload_n 3, 1) := by decide +kernel
theorem dX9_set_97 : decode cX9_set 97 = .ok (.invokestatic 139, 3) := by decide +kernel
theorem dX9_set_100 : decode cX9_set 100 = .ok (.goto 5, 3) := by decide +kernel
theorem dX9_set_103 : decode cX9_set 103 = .ok (.bipush (-2), 2) := by decide +kernel
theorem dX9_set_105 : decode cX9_set 105 = .ok (.ireturn, 1) := by decide +kernel
theorem dX9_set_106 : decode cX9_set 106 = .ok (.aload_n 0, 1) := by decide +kernel
theorem dX9_set_107 : decode cX9_set 107 = .ok (.iload_n 2, 1) := by decide +kernel
theorem dX9_set_108 : decode cX9_set 108 = .ok (.invokevirtual 136, 3) := by decide +kernel
theorem dX9_set_111 : decode cX9_set 111 = .ok (.ifCond .eq 25, 3) := by decide +kernel
theorem dX9_set_114 : decode cX9_set 114 = .ok (.iload_n 3, 1) := by decide +kernel
theorem dX9_set_115 : decode cX9_set 115 = .ok (.bipush 51, 2) := by decide +kernel
theorem dX9_set_117 : decode cX9_set 117 = .ok (.invokestatic 102, 3) := by decide +kernel
theorem dX9_set_120 : decode cX9_set 120 = .ok (.ifCond .eq 16, 3) := by decide +kernel
theorem dX9_set_123 : decode cX9_set 123 = .ok (.aload_n 0, 1) := by decide +kernel
theorem dX9_set_124 : decode cX9_set 124 = .ok (.getfield 11, 3) := by decide +kernel
theorem dX9_set_127 : decode cX9_set 127 = .ok (.iload_n 2, 1) := by decide +kernel
theorem dX9_set_128 : decode cX9_set 128 = .ok (.aaload, 1) := by decide +kernel
theorem dX9_set_129 : decode cX9_set 129 = .ok (.iload_n 3, 1) := by decide +kernel
theorem dX9_set_130 : decode cX9_set 130 = .ok (.invokevirtual 143, 3) := by decide +kernel
theorem dX9_set_133 : decode cX9_set 133 = .ok (.goto 5, 3) := by decide +kernel
theorem dX9_set_136 : decode cX9_set 136 = .ok (.bipush (-2), 2) := by decide +kernel
theorem dX9_set_138 : decode cX9_set 138 = .ok (.ireturn, 1) := by decide +kernel
theorem dX9_set_139 : decode cX9_set 139 = .ok (.aload_n 0, 1) := by decide +kernel
theorem dX9_set_140 : decode cX9_set 140 = .ok (.iload_n 2, 1) := by decide +kernel
theorem dX9_set_141 : decode cX9_set 141 = .ok (.invokevirtual 147, 3) := by decide +kernel
theorem dX9_set_144 : decode cX9_set 144 = .ok (.ifCond .eq 31, 3) := by decide +kernel
theorem dX9_set_147 : decode cX9_set 147 = .ok (.iload_n 3, 1) := by decide +kernel
theorem dX9_set_148 : decode cX9_set 148 = .ok (.iconst (-1), 1) := by decide +kernel
theorem dX9_set_149 : decode cX9_set 149 = .ok (.if_icmp .eq 11, 3) := by decide +kernel
theorem dX9_set_152 : decode cX9_set 152 = .ok (.aload_n 0, 1) := by decide +kernel
theorem dX9_set_153 : decode cX9_set 153 = .ok (.iload_n 3, 1) := by decide +kernel
theorem dX9_set_154 : decode cX9_set 154 = .ok (.invokevirtual 136, 3) := by decide +kernel
theorem dX9_set_157 : decode cX9_set 157 = .ok (.ifCond .eq 18, 3) := by decide +kernel
theorem dX9_set_160 : decode cX9_set 160 = .ok (.aload_n 0, 1) := by decide +kernel
theorem dX9_set_161 : decode cX9_set 161 = .ok (.getfield 64, 3) := by decide +kernel
theorem dX9_set_164 : decode cX9_set 164 = .ok (.getfield 133, 3) := by decide +kernel
theorem dX9_set_167 : decode cX9_set 167 = .ok (.iload_n 2, 1) := by decide +kernel
theorem dX9_set_168 : decode cX9_set 168 = .ok (.iload_n 3, 1) := by decide +kernel
theorem dX9_set_169 : decode cX9_set 169 = .ok (.invokestatic 139, 3) := by decide +kernel
theorem dX9_set_172 : decode cX9_set 172 = .ok (.goto 5, 3) := by decide +kernel
theorem dX9_set_175 : decode cX9_set 175 = .ok (.bipush (-2), 2) := by decide +kernel
theorem dX9_set_177 : decode cX9_set 177 = .ok (.ireturn, 1) := by decide +kernel
theorem dX9_set_178 : decode cX9_set 178 = .ok (.iload_n 3, 1) := by decide +kernel
theorem dX9_set_179 : decode cX9_set 179 = .ok (.bipush 63, 2) := by decide +kernel
theorem dX9_set_181 : decode cX9_set 181 = .ok (.invokestatic 102, 3) := by decide +kernel
theorem dX9_set_184 : decode cX9_set 184 = .ok (.ifCond .eq 11, 3) := by decide +kernel
theorem dX9_set_187 : decode cX9_set 187 = .ok (.aload_n 0, 1) := by decide +kernel
theorem dX9_set_188 : decode cX9_set 188 = .ok (.iload_n 3, 1) := by decide +kernel
theorem dX9_set_189 : decode cX9_set 189 = .ok (.invokevirtual 150, 3) := by decide +kernel
theorem dX9_set_192 : decode cX9_set 192 = .ok (.goto 5, 3) := by decide +kernel
theorem dX9_set_195 : decode cX9_set 195 = .ok (.bipush (-2), 2) := by decide +kernel
theorem dX9_set_197 : decode cX9_set 197 = .ok (.ireturn, 1) := by decide +kernel
theorem dX9_set_198 : decode cX9_set 198 = .ok (.bipush (-2), 2) := by decide +kernel
theorem dX9_set_200 : decode cX9_set 200 = .ok (.ireturn, 1) := by decide +kernel
theorem dX9_told_0 : decode cX9_told 0 = .ok (.iload_n 2, 1) := by decide +kernel
theorem dX9_told_1 : decode cX9_told 1 = .ok (.bipush 6, 2) := by decide +kernel
theorem dX9_told_3 : decode cX9_told 3 = .ok (.invokestatic 102, 3) := by decide +kernel
theorem dX9_told_6 : decode cX9_told 6 = .ok (.ifCond .eq 23, 3) := by decide +kernel
theorem dX9_told_9 : decode cX9_told 9 = .ok (.aload_n 0, 1) := by decide +kernel
theorem dX9_told_10 : decode cX9_told 10 = .ok (.iload_n 1, 1) := by decide +kernel
theorem dX9_told_11 : decode cX9_told 11 = .ok (.invokevirtual 136, 3) := by decide +kernel
theorem dX9_told_14 : decode cX9_told 14 = .ok (.ifCond .eq 12, 3) := by decide +kernel
theorem dX9_told_17 : decode cX9_told 17 = .ok (.aload_n 0, 1) := by decide +kernel
theorem dX9_told_18 : decode cX9_told 18 = .ok (.iload_n 1, 1) := by decide +kernel
theorem dX9_told_19 : decode cX9_told 19 = .ok (.iload_n 2, 1) := by decide +kernel
theorem dX9_told_20 : decode cX9_told 20 = .ok (.invokevirtual 153, 3) := by decide +kernel
theorem dX9_told_23 : decode cX9_told 23 = .ok (.goto 5, 3) := by decide +kernel
theorem dX9_told_26 : decode cX9_told 26 = .ok (.bipush (-2), 2) := by decide +kernel
theorem dX9_told_28 : decode cX9_told 28 = .ok (.ireturn, 1) := by decide +kernel
theorem dX9_told_29 : decode cX9_told 29 = .ok (.iload_n 2, 1) := by decide +kernel
theorem dX9_told_30 : decode cX9_told 30 = .ok (.bipush 10, 2) := by decide +kernel
theorem dX9_told_32 : decode cX9_told 32 = .ok (.invokestatic 102, 3) := by decide +kernel
theorem dX9_told_35 : decode cX9_told 35 = .ok (.ifCond .eq 23, 3) := by decide +kernel
theorem dX9_told_38 : decode cX9_told 38 = .ok (.aload_n 0, 1) := by decide +kernel
theorem dX9_told_39 : decode cX9_told 39 = .ok (.iload_n 1, 1) := by decide +kernel
theorem dX9_told_40 : decode cX9_told 40 = .ok (.invokevirtual 147, 3) := by decide +kernel
theorem dX9_told_43 : decode cX9_told 43 = .ok (.ifCond .eq 12, 3) := by decide +kernel
theorem dX9_told_46 : decode cX9_told 46 = .ok (.aload_n 0, 1) := by decide +kernel
theorem dX9_told_47 : decode cX9_told 47 = .ok (.iload_n 1, 1) := by decide +kernel
theorem dX9_told_48 : decode cX9_told 48 = .ok (.iload_n 2, 1) := by decide +kernel
theorem dX9_told_49 : decode cX9_told 49 = .ok (.invokevirtual 157, 3) := by decide +kernel
theorem dX9_told_52 : decode cX9_told 52 = .ok (.goto 5, 3) := by decide +kernel
theorem dX9_told_55 : decode cX9_told 55 = .ok (.bipush (-2), 2) := by decide +kernel
theorem dX9_told_57 : decode cX9_told 57 = .ok (.ireturn, 1) := by decide +kernel
theorem dX9_told_58 : decode cX9_told 58 = .ok (.bipush (-2), 2) := by decide +kernel
theorem dX9_told_60 : decode cX9_told 60 = .ok (.ireturn, 1) := by decide +kernel
theorem dX9_tellOfBuyer_0 : decode cX9_tellOfBuyer 0 = .ok (.aload_n 0, 1) := by decide +kernel
theorem dX9_tellOfBuyer_1 : decode cX9_tellOfBuyer 1 = .ok (.getfield 11, 3) := by decide +kernel
theorem dX9_tellOfBuyer_4 : decode cX9_tellOfBuyer 4 = .ok (.iload_n 1, 1) := by decide +kernel
theorem dX9_tellOfBuyer_5 : decode cX9_tellOfBuyer 5 = .ok (.aaload, 1) := by decide +kernel
theorem dX9_tellOfBuyer_6 : decode cX9_tellOfBuyer 6 = .ok (.astore_n 3, 1) := by decide +kernel
theorem dX9_tellOfBuyer_7 : decode cX9_tellOfBuyer 7 = .ok (.iload_n 2, 1) := by decide +kernel
theorem dX9_tellOfBuyer_8 : decode cX9_tellOfBuyer 8 = .ok (.tableswitch 96 0 5 #[40, 45, 55, 60, 70, 75], 40) := by decide +kernel
theorem dX9_tellOfBuyer_48 : decode cX9_tellOfBuyer 48 = .ok (.aload_n 3, 1) := by decide +kernel
theorem dX9_tellOfBuyer_49 : decode cX9_tellOfBuyer 49 = .ok (.getfield 109, 3) := by decide +kernel
theorem dX9_tellOfBuyer_52 : decode cX9_tellOfBuyer 52 = .ok (.ireturn, 1) := by decide +kernel
theorem dX9_tellOfBuyer_53 : decode cX9_tellOfBuyer 53 = .ok (.aload_n 0, 1) := by decide +kernel
theorem dX9_tellOfBuyer_54 : decode cX9_tellOfBuyer 54 = .ok (.getfield 64, 3) := by decide +kernel
theorem dX9_tellOfBuyer_57 : decode cX9_tellOfBuyer 57 = .ok (.getfield 118, 3) := by decide +kernel
theorem dX9_tellOfBuyer_60 : decode cX9_tellOfBuyer 60 = .ok (.iload_n 1, 1) := by decide +kernel
theorem dX9_tellOfBuyer_61 : decode cX9_tellOfBuyer 61 = .ok (.iaload, 1) := by decide +kernel
theorem dX9_tellOfBuyer_62 : decode cX9_tellOfBuyer 62 = .ok (.ireturn, 1) := by decide +kernel
theorem dX9_tellOfBuyer_63 : decode cX9_tellOfBuyer 63 = .ok (.aload_n 3, 1) := by decide +kernel
theorem dX9_tellOfBuyer_64 : decode cX9_tellOfBuyer 64 = .ok (.getfield 112, 3) := by decide +kernel
theorem dX9_tellOfBuyer_67 : decode cX9_tellOfBuyer 67 = .ok (.ireturn, 1) := by decide +kernel
theorem dX9_tellOfBuyer_68 : decode cX9_tellOfBuyer 68 = .ok (.aload_n 0, 1) := by decide +kernel
theorem dX9_tellOfBuyer_69 : decode cX9_tellOfBuyer 69 = .ok (.getfield 64, 3) := by decide +kernel
theorem dX9_tellOfBuyer_72 : decode cX9_tellOfBuyer 72 = .ok (.getfield 122, 3) := by decide +kernel
theorem dX9_tellOfBuyer_75 : decode cX9_tellOfBuyer 75 = .ok (.iload_n 1, 1) := by decide +kernel
theorem dX9_tellOfBuyer_76 : decode cX9_tellOfBuyer 76 = .ok (.iaload, 1) := by decide +kernel
theorem dX9_tellOfBuyer_77 : decode cX9_tellOfBuyer 77 = .ok (.ireturn, 1) := by decide +kernel
theorem dX9_tellOfBuyer_78 : decode cX9_tellOfBuyer 78 = .ok (.aload_n 3, 1) := by decide +kernel
theorem dX9_tellOfBuyer_79 : decode cX9_tellOfBuyer 79 = .ok (.getfield 115, 3) := by decide +kernel
theorem dX9_tellOfBuyer_82 : decode cX9_tellOfBuyer 82 = .ok (.ireturn, 1) := by decide +kernel
theorem dX9_tellOfBuyer_83 : decode cX9_tellOfBuyer 83 = .ok (.aload_n 3, 1) := by decide +kernel
theorem dX9_tellOfBuyer_84 : decode cX9_tellOfBuyer 84 = .ok (.aload_n 0, 1) := by decide +kernel
theorem dX9_tellOfBuyer_85 : decode cX9_tellOfBuyer 85 = .ok (.getfield 64, 3) := by decide +kernel
theorem dX9_tellOfBuyer_88 : decode cX9_tellOfBuyer 88 = .ok (.getfield 118, 3) := by decide +kernel
theorem dX9_tellOfBuyer_91 : decode cX9_tellOfBuyer 91 = .ok (.iload_n 1, 1) := by decide +kernel
theorem dX9_tellOfBuyer_92 : decode cX9_tellOfBuyer 92 = .ok (.iaload, 1) := by decide +kernel
theorem dX9_tellOfBuyer_93 : decode cX9_tellOfBuyer 93 = .ok (.aload_n 0, 1) := by decide +kernel
theorem dX9_tellOfBuyer_94 : decode cX9_tellOfBuyer 94 = .ok (.getfield 64, 3) := by decide +kernel
theorem dX9_tellOfBuyer_97 : decode cX9_tellOfBuyer 97 = .ok (.getfield 160, 3) := by decide +kernel
theorem dX9_tellOfBuyer_100 : decode cX9_tellOfBuyer 100 = .ok (.invokevirtual 163, 3) := by decide +kernel
theorem dX9_tellOfBuyer_103 : decode cX9_tellOfBuyer 103 = .ok (.ireturn, 1) := by decide +kernel
theorem dX9_tellOfBuyer_104 : decode cX9_tellOfBuyer 104 = .ok (.aload_n 3, 1) := by decide +kernel
theorem dX9_tellOfBuyer_105 : decode cX9_tellOfBuyer 105 = .ok (.aload_n 0, 1) := by decide +kernel
theorem dX9_tellOfBuyer_106 : decode cX9_tellOfBuyer 106 = .ok (.getfield 64, 3) := by decide +kernel
theorem dX9_tellOfBuyer_109 : decode cX9_tellOfBuyer 109 = .ok (.getfield 122, 3) := by decide +kernel
theorem dX9_tellOfBuyer_112 : decode cX9_tellOfBuyer 112 = .ok (.iload_n 1, 1) := by decide +kernel
theorem dX9_tellOfBuyer_113 : decode cX9_tellOfBuyer 113 = .ok (.iaload, 1) := by decide +kernel
theorem dX9_tellOfBuyer_114 : decode cX9_tellOfBuyer 114 = .ok (.invokevirtual 166, 3) := by decide +kernel
theorem dX9_tellOfBuyer_117 : decode cX9_tellOfBuyer 117 = .ok (.ireturn, 1) := by decide +kernel
theorem dX9_tellOfWare_0 : decode cX9_tellOfWare 0 = .ok (.iload_n 2, 1) := by decide +kernel
theorem dX9_tellOfWare_1 : decode cX9_tellOfWare 1 = .ok (.tableswitch 57 7 9 #[27, 37, 47], 27) := by decide +kernel
theorem dX9_tellOfWare_28 : decode cX9_tellOfWare 28 = .ok (.aload_n 0, 1) := by decide +kernel
theorem dX9_tellOfWare_29 : decode cX9_tellOfWare 29 = .ok (.getfield 17, 3) := by decide +kernel
theorem dX9_tellOfWare_32 : decode cX9_tellOfWare 32 = .ok (.iload_n 1, 1) := by decide +kernel
theorem dX9_tellOfWare_33 : decode cX9_tellOfWare 33 = .ok (.aaload, 1) := by decide +kernel
theorem dX9_tellOfWare_34 : decode cX9_tellOfWare 34 = .ok (.getfield 127, 3) := by decide +kernel
theorem dX9_tellOfWare_37 : decode cX9_tellOfWare 37 = .ok (.ireturn, 1) := by decide +kernel
theorem dX9_tellOfWare_38 : decode cX9_tellOfWare 38 = .ok (.aload_n 0, 1) := by decide +kernel
theorem dX9_tellOfWare_39 : decode cX9_tellOfWare 39 = .ok (.getfield 17, 3) := by decide +kernel
theorem dX9_tellOfWare_42 : decode cX9_tellOfWare 42 = .ok (.iload_n 1, 1) := by decide +kernel
theorem dX9_tellOfWare_43 : decode cX9_tellOfWare 43 = .ok (.aaload, 1) := by decide +kernel
theorem dX9_tellOfWare_44 : decode cX9_tellOfWare 44 = .ok (.getfield 130, 3) := by decide +kernel
theorem dX9_tellOfWare_47 : decode cX9_tellOfWare 47 = .ok (.ireturn, 1) := by decide +kernel
theorem dX9_tellOfWare_48 : decode cX9_tellOfWare 48 = .ok (.aload_n 0, 1) := by decide +kernel
theorem dX9_tellOfWare_49 : decode cX9_tellOfWare 49 = .ok (.getfield 64, 3) := by decide +kernel
theorem dX9_tellOfWare_52 : decode cX9_tellOfWare 52 = .ok (.getfield 133, 3) := by decide +kernel
theorem dX9_tellOfWare_55 : decode cX9_tellOfWare 55 = .ok (.iload_n 1, 1) := by decide +kernel
theorem dX9_tellOfWare_56 : decode cX9_tellOfWare 56 = .ok (.iaload, 1) := by decide +kernel
theorem dX9_tellOfWare_57 : decode cX9_tellOfWare 57 = .ok (.ireturn, 1) := by decide +kernel
theorem dX9_tellOfWare_58 : decode cX9_tellOfWare 58 = .ok (.aload_n 0, 1) := by decide +kernel
theorem dX9_tellOfWare_59 : decode cX9_tellOfWare 59 = .ok (.getfield 64, 3) := by decide +kernel
theorem dX9_tellOfWare_62 : decode cX9_tellOfWare 62 = .ok (.getfield 169, 3) := by decide +kernel
theorem dX9_tellOfWare_65 : decode cX9_tellOfWare 65 = .ok (.iload_n 1, 1) := by decide +kernel
theorem dX9_tellOfWare_66 : decode cX9_tellOfWare 66 = .ok (.ishr, 1) := by decide +kernel
theorem dX9_tellOfWare_67 : decode cX9_tellOfWare 67 = .ok (.iconst 1, 1) := by decide +kernel
theorem dX9_tellOfWare_68 : decode cX9_tellOfWare 68 = .ok (.iand, 1) := by decide +kernel
theorem dX9_tellOfWare_69 : decode cX9_tellOfWare 69 = .ok (.ireturn, 1) := by decide +kernel
theorem dX9_changeCarry_0 : decode cX9_changeCarry 0 = .ok (.aload_n 0, 1) := by decide +kernel
theorem dX9_changeCarry_1 : decode cX9_changeCarry 1 = .ok (.getfield 64, 3) := by decide +kernel
theorem dX9_changeCarry_4 : decode cX9_changeCarry 4 = .ok (.getfield 75, 3) := by decide +kernel
theorem dX9_changeCarry_7 : decode cX9_changeCarry 7 = .ok (.istore_n 2, 1) := by decide +kernel
theorem dX9_changeCarry_8 : decode cX9_changeCarry 8 = .ok (.aload_n 0, 1) := by decide +kernel
theorem dX9_changeCarry_9 : decode cX9_changeCarry 9 = .ok (.getfield 64, 3) := by decide +kernel
theorem dX9_changeCarry_12 : decode cX9_changeCarry 12 = .ok (.iload_n 1, 1) := by decide +kernel
theorem dX9_changeCarry_13 : decode cX9_changeCarry 13 = .ok (.putfield 75, 3) := by decide +kernel
theorem dX9_changeCarry_16 : decode cX9_changeCarry 16 = .ok (.iload_n 2, 1) := by decide +kernel
theorem dX9_changeCarry_17 : decode cX9_changeCarry 17 = .ok (.ireturn, 1) := by decide +kernel
theorem dX9_exchange_0 : decode cX9_exchange 0 = .ok (.aload_n 0, 1) := by decide +kernel
theorem dX9_exchange_1 : decode cX9_exchange 1 = .ok (.iload_n 1, 1) := by decide +kernel
theorem dX9_exchange_2 : decode cX9_exchange 2 = .ok (.iaload, 1) := by decide +kernel
theorem dX9_exchange_3 : decode cX9_exchange 3 = .ok (.istore_n 3, 1) := by decide +kernel
theorem dX9_exchange_4 : decode cX9_exchange 4 = .ok (.aload_n 0, 1) := by decide +kernel
theorem dX9_exchange_5 : decode cX9_exchange 5 = .ok (.iload_n 1, 1) := by decide +kernel
theorem dX9_exchange_6 : decode cX9_exchange 6 = .ok (.iload_n 2, 1) := by decide +kernel
theorem dX9_exchange_7 : decode cX9_exchange 7 = .ok (.iastore, 1) := by decide +kernel
theorem dX9_exchange_8 : decode cX9_exchange 8 = .ok (.iload_n 3, 1) := by decide +kernel
theorem dX9_exchange_9 : decode cX9_exchange 9 = .ok (.ireturn, 1) := by decide +kernel
theorem dX9_isWithin_0 : decode cX9_isWithin 0 = .ok (.iload_n 0, 1) := by decide +kernel
theorem dX9_isWithin_1 : decode cX9_isWithin 1 = .ok (.ifCond .lt 12, 3) := by decide +kernel
theorem dX9_isWithin_4 : decode cX9_isWithin 4 = .ok (.iload_n 0, 1) := by decide +kernel
theorem dX9_isWithin_5 : decode cX9_isWithin 5 = .ok (.iload_n 1, 1) := by decide +kernel
theorem dX9_isWithin_6 : decode cX9_isWithin 6 = .ok (.if_icmp .gt 7, 3) := by decide +kernel
theorem dX9_isWithin_9 : decode cX9_isWithin 9 = .ok (.iconst 1, 1) := by decide +kernel
theorem dX9_isWithin_10 : decode cX9_isWithin 10 = .ok (.goto 4, 3) := by decide +kernel
theorem dX9_isWithin_13 : decode cX9_isWithin 13 = .ok (.iconst 0, 1) := by decide +kernel
theorem dX9_isWithin_14 : decode cX9_isWithin 14 = .ok (.ireturn, 1) := by decide +kernel
theorem dX9_isBuyer_0 : decode cX9_isBuyer 0 = .ok (.iload_n 1, 1) := by decide +kernel
theorem dX9_isBuyer_1 : decode cX9_isBuyer 1 = .ok (.ifCond .lt 15, 3) := by decide +kernel
theorem dX9_isBuyer_4 : decode cX9_isBuyer 4 = .ok (.iload_n 1, 1) := by decide +kernel
theorem dX9_isBuyer_5 : decode cX9_isBuyer 5 = .ok (.aload_n 0, 1) := by decide +kernel
theorem dX9_isBuyer_6 : decode cX9_isBuyer 6 = .ok (.getfield 106, 3) := by decide +kernel
theorem dX9_isBuyer_9 : decode cX9_isBuyer 9 = .ok (.if_icmp .ge 7, 3) := by decide +kernel
theorem dX9_isBuyer_12 : decode cX9_isBuyer 12 = .ok (.iconst 1, 1) := by decide +kernel
theorem dX9_isBuyer_13 : decode cX9_isBuyer 13 = .ok (.goto 4, 3) := by decide +kernel
theorem dX9_isBuyer_16 : decode cX9_isBuyer 16 = .ok (.iconst 0, 1) := by decide +kernel
theorem dX9_isBuyer_17 : decode cX9_isBuyer 17 = .ok (.ireturn, 1) := by decide +kernel
theorem dX9_isWare_0 : decode cX9_isWare 0 = .ok (.iload_n 1, 1) := by decide +kernel
theorem dX9_isWare_1 : decode cX9_isWare 1 = .ok (.ifCond .lt 15, 3) := by decide +kernel
theorem dX9_isWare_4 : decode cX9_isWare 4 = .ok (.iload_n 1, 1) := by decide +kernel
theorem dX9_isWare_5 : decode cX9_isWare 5 = .ok (.aload_n 0, 1) := by decide +kernel
theorem dX9_isWare_6 : decode cX9_isWare 6 = .ok (.getfield 124, 3) := by decide +kernel
theorem dX9_isWare_9 : decode cX9_isWare 9 = .ok (.if_icmp .ge 7, 3) := by decide +kernel
theorem dX9_isWare_12 : decode cX9_isWare 12 = .ok (.iconst 1, 1) := by decide +kernel
theorem dX9_isWare_13 : decode cX9_isWare 13 = .ok (.goto 4, 3) := by decide +kernel
theorem dX9_isWare_16 : decode cX9_isWare 16 = .ok (.iconst 0, 1) := by decide +kernel
theorem dX9_isWare_17 : decode cX9_isWare 17 = .ok (.ireturn, 1) := by decide +kernel
theorem dX9_unbought_0 : decode cX9_unbought 0 = .ok (.iconst 1, 1) := by decide +kernel
theorem dX9_unbought_1 : decode cX9_unbought 1 = .ok (.aload_n 0, 1) := by decide +kernel
theorem dX9_unbought_2 : decode cX9_unbought 2 = .ok (.getfield 124, 3) := by decide +kernel
theorem dX9_unbought_5 : decode cX9_unbought 5 = .ok (.ishl, 1) := by decide +kernel
theorem dX9_unbought_6 : decode cX9_unbought 6 = .ok (.iconst 1, 1) := by decide +kernel
theorem dX9_unbought_7 : decode cX9_unbought 7 = .ok (.isub, 1) := by decide +kernel
theorem dX9_unbought_8 : decode cX9_unbought 8 = .ok (.aload_n 0, 1) := by decide +kernel
theorem dX9_unbought_9 : decode cX9_unbought 9 = .ok (.getfield 64, 3) := by decide +kernel
theorem dX9_unbought_12 : decode cX9_unbought 12 = .ok (.getfield 169, 3) := by decide +kernel
theorem dX9_unbought_15 : decode cX9_unbought 15 = .ok (.iconst (-1), 1) := by decide +kernel
theorem dX9_unbought_16 : decode cX9_unbought 16 = .ok (.ixor, 1) := by decide +kernel
theorem dX9_unbought_17 : decode cX9_unbought 17 = .ok (.iand, 1) := by decide +kernel
theorem dX9_unbought_18 : decode cX9_unbought 18 = .ok (.ireturn, 1) := by decide +kernel
theorem dX9_has_0 : decode cX9_has 0 = .ok (.iload_n 0, 1) := by decide +kernel
theorem dX9_has_1 : decode cX9_has 1 = .ok (.iload_n 1, 1) := by decide +kernel
theorem dX9_has_2 : decode cX9_has 2 = .ok (.ishr, 1) := by decide +kernel
theorem dX9_has_3 : decode cX9_has 3 = .ok (.iconst 1, 1) := by decide +kernel
theorem dX9_has_4 : decode cX9_has 4 = .ok (.iand, 1) := by decide +kernel
theorem dX9_has_5 : decode cX9_has 5 = .ok (.ifCond .eq 7, 3) := by decide +kernel
theorem dX9_has_8 : decode cX9_has 8 = .ok (.iconst 1, 1) := by decide +kernel
theorem dX9_has_9 : decode cX9_has 9 = .ok (.goto 4, 3) := by decide +kernel
theorem dX9_has_12 : decode cX9_has 12 = .ok (.iconst 0, 1) := by decide +kernel
theorem dX9_has_13 : decode cX9_has 13 = .ok (.ireturn, 1) := by decide +kernel
theorem dX9_feed_0 : decode cX9_feed 0 = .ok (.iload_n 1, 1) := by decide +kernel
theorem dX9_feed_1 : decode cX9_feed 1 = .ok (.sipush 255, 3) := by decide +kernel
theorem dX9_feed_4 : decode cX9_feed 4 = .ok (.invokestatic 102, 3) := by decide +kernel
theorem dX9_feed_7 : decode cX9_feed 7 = .ok (.ifCond .ne 6, 3) := by decide +kernel
theorem dX9_feed_10 : decode cX9_feed 10 = .ok (.bipush (-2), 2) := by decide +kernel
theorem dX9_feed_12 : decode cX9_feed 12 = .ok (.ireturn, 1) := by decide +kernel
theorem dX9_feed_13 : decode cX9_feed 13 = .ok (.aload_n 0, 1) := by decide +kernel
theorem dX9_feed_14 : decode cX9_feed 14 = .ok (.getfield 36, 3) := by decide +kernel
theorem dX9_feed_17 : decode cX9_feed 17 = .ok (.iload_n 1, 1) := by decide +kernel
theorem dX9_feed_18 : decode cX9_feed 18 = .ok (.invokevirtual 91, 3) := by decide +kernel
theorem dX9_feed_21 : decode cX9_feed 21 = .ok (.ifCond .eq 13, 3) := by decide +kernel
theorem dX9_feed_24 : decode cX9_feed 24 = .ok (.aload_n 0, 1) := by decide +kernel
theorem dX9_feed_25 : decode cX9_feed 25 = .ok (.getfield 36, 3) := by decide +kernel
theorem dX9_feed_28 : decode cX9_feed 28 = .ok (.getfield 172, 3) := by decide +kernel
theorem dX9_feed_31 : decode cX9_feed 31 = .ok (.goto 5, 3) := by decide +kernel
theorem dX9_feed_34 : decode cX9_feed 34 = .ok (.bipush (-4), 2) := by decide +kernel
theorem dX9_feed_36 : decode cX9_feed 36 = .ok (.ireturn, 1) := by decide +kernel
theorem dX9_text_0 : decode cX9_text 0 = .ok (.aload_n 0, 1) := by decide +kernel
theorem dX9_text_1 : decode cX9_text 1 = .ok (.getfield 99, 3) := by decide +kernel
theorem dX9_text_4 : decode cX9_text 4 = .ok (.bipush 6, 2) := by decide +kernel
theorem dX9_text_6 : decode cX9_text 6 = .ok (.if_icmp .lt 6, 3) := by decide +kernel
theorem dX9_text_9 : decode cX9_text 9 = .ok (.bipush (-4), 2) := by decide +kernel
theorem dX9_text_11 : decode cX9_text 11 = .ok (.ireturn, 1) := by decide +kernel
theorem dX9_text_12 : decode cX9_text 12 = .ok (.aload_n 0, 1) := by decide +kernel
theorem dX9_text_13 : decode cX9_text 13 = .ok (.getfield 36, 3) := by decide +kernel
theorem dX9_text_16 : decode cX9_text 16 = .ok (.aload_n 0, 1) := by decide +kernel
theorem dX9_text_17 : decode cX9_text 17 = .ok (.getfield 23, 3) := by decide +kernel
theorem dX9_text_20 : decode cX9_text 20 = .ok (.aload_n 0, 1) := by decide +kernel
theorem dX9_text_21 : decode cX9_text 21 = .ok (.getfield 99, 3) := by decide +kernel
theorem dX9_text_24 : decode cX9_text 24 = .ok (.aaload, 1) := by decide +kernel
theorem dX9_text_25 : decode cX9_text 25 = .ok (.invokevirtual 95, 3) := by decide +kernel
theorem dX9_text_28 : decode cX9_text 28 = .ok (.istore_n 1, 1) := by decide +kernel
theorem dX9_text_29 : decode cX9_text 29 = .ok (.iload_n 1, 1) := by decide +kernel
theorem dX9_text_30 : decode cX9_text 30 = .ok (.iconst (-1), 1) := by decide +kernel
theorem dX9_text_31 : decode cX9_text 31 = .ok (.if_icmp .eq 8, 3) := by decide +kernel
theorem dX9_text_34 : decode cX9_text 34 = .ok (.bipush (-100), 2) := by decide +kernel
theorem dX9_text_36 : decode cX9_text 36 = .ok (.iload_n 1, 1) := by decide +kernel
theorem dX9_text_37 : decode cX9_text 37 = .ok (.isub, 1) := by decide +kernel
theorem dX9_text_38 : decode cX9_text 38 = .ok (.ireturn, 1) := by decide +kernel
theorem dX9_text_39 : decode cX9_text 39 = .ok (.aload_n 0, 1) := by decide +kernel
theorem dX9_text_40 : decode cX9_text 40 = .ok (.dup, 1) := by decide +kernel
theorem dX9_text_41 : decode cX9_text 41 = .ok (.getfield 99, 3) := by decide +kernel
theorem dX9_text_44 : decode cX9_text 44 = .ok (.iconst 1, 1) := by decide +kernel
theorem dX9_text_45 : decode cX9_text 45 = .ok (.iadd, 1) := by decide +kernel
theorem dX9_text_46 : decode cX9_text 46 = .ok (.putfield 99, 3) := by decide +kernel
theorem dX9_text_49 : decode cX9_text 49 = .ok (.aload_n 0, 1) := by decide +kernel
theorem dX9_text_50 : decode cX9_text 50 = .ok (.getfield 99, 3) := by decide +kernel
theorem dX9_text_53 : decode cX9_text 53 = .ok (.iconst 1, 1) := by decide +kernel
theorem dX9_text_54 : decode cX9_text 54 = .ok (.isub, 1) := by decide +kernel
theorem dX9_text_55 : decode cX9_text 55 = .ok (.ireturn, 1) := by decide +kernel
theorem dX9_force_0 : decode cX9_force 0 = .ok (.iload_n 1, 1) := by decide +kernel
theorem dX9_force_1 : decode cX9_force 1 = .ok (.ifCond .lt 11, 3) := by decide +kernel
theorem dX9_force_4 : decode cX9_force 4 = .ok (.iload_n 1, 1) := by decide +kernel
theorem dX9_force_5 : decode cX9_force 5 = .ok (.aload_n 0, 1) := by decide +kernel
theorem dX9_force_6 : decode cX9_force 6 = .ok (.getfield 99, 3) := by decide +kernel
theorem dX9_force_9 : decode cX9_force 9 = .ok (.if_icmp .lt 6, 3) := by decide +kernel
theorem dX9_force_12 : decode cX9_force 12 = .ok (.bipush (-2), 2) := by decide +kernel
theorem dX9_force_14 : decode cX9_force 14 = .ok (.ireturn, 1) := by decide +kernel
theorem dX9_force_15 : decode cX9_force 15 = .ok (.aload_n 0, 1) := by decide +kernel
theorem dX9_force_16 : decode cX9_force 16 = .ok (.getfield 64, 3) := by decide +kernel
theorem dX9_force_19 : decode cX9_force 19 = .ok (.getfield 173, 3) := by decide +kernel
theorem dX9_force_22 : decode cX9_force 22 = .ok (.istore_n 2, 1) := by decide +kernel
theorem dX9_force_23 : decode cX9_force 23 = .ok (.aload_n 0, 1) := by decide +kernel
theorem dX9_force_24 : decode cX9_force 24 = .ok (.getfield 64, 3) := by decide +kernel
theorem dX9_force_27 : decode cX9_force 27 = .ok (.iload_n 1, 1) := by decide +kernel
theorem dX9_force_28 : decode cX9_force 28 = .ok (.putfield 173, 3) := by decide +kernel
theorem dX9_force_31 : decode cX9_force 31 = .ok (.iload_n 2, 1) := by decide +kernel
theorem dX9_force_32 : decode cX9_force 32 = .ok (.ireturn, 1) := by decide +kernel
theorem dX9_years_0 : decode cX9_years 0 = .ok (.aload_n 0, 1) := by decide +kernel
theorem dX9_years_1 : decode cX9_years 1 = .ok (.iload_n 1, 1) := by decide +kernel
theorem dX9_years_2 : decode cX9_years 2 = .ok (.invokevirtual 136, 3) := by decide +kernel
theorem dX9_years_5 : decode cX9_years 5 = .ok (.ifCond .eq 12, 3) := by decide +kernel
theorem dX9_years_8 : decode cX9_years 8 = .ok (.iload_n 2, 1) := by decide +kernel
theorem dX9_years_9 : decode cX9_years 9 = .ok (.bipush 103, 2) := by decide +kernel
theorem dX9_years_11 : decode cX9_years 11 = .ok (.invokestatic 102, 3) := by decide +kernel
theorem dX9_years_14 : decode cX9_years 14 = .ok (.ifCond .ne 6, 3) := by decide +kernel
theorem dX9_years_17 : decode cX9_years 17 = .ok (.bipush (-2), 2) := by decide +kernel
theorem dX9_years_19 : decode cX9_years 19 = .ok (.ireturn, 1) := by decide +kernel
theorem dX9_years_20 : decode cX9_years 20 = .ok (.aload_n 0, 1) := by decide +kernel
theorem dX9_years_21 : decode cX9_years 21 = .ok (.getfield 11, 3) := by decide +kernel
theorem dX9_years_24 : decode cX9_years 24 = .ok (.iload_n 1, 1) := by decide +kernel
theorem dX9_years_25 : decode cX9_years 25 = .ok (.aaload, 1) := by decide +kernel
theorem dX9_years_26 : decode cX9_years 26 = .ok (.iload_n 2, 1) := by decide +kernel
theorem dX9_years_27 : decode cX9_years 27 = .ok (.aload_n 0, 1) := by decide +kernel
theorem dX9_years_28 : decode cX9_years 28 = .ok (.getfield 64, 3) := by decide +kernel
theorem dX9_years_31 : decode cX9_years 31 = .ok (.getfield 118, 3) := by decide +kernel
theorem dX9_years_34 : decode cX9_years 34 = .ok (.iload_n 1, 1) := by decide +kernel
theorem dX9_years_35 : decode cX9_years 35 = .ok (.iaload, 1) := by decide +kernel
theorem dX9_years_36 : decode cX9_years 36 = .ok (.aload_n 0, 1) := by decide +kernel
theorem dX9_years_37 : decode cX9_years 37 = .ok (.getfield 64, 3) := by decide +kernel
theorem dX9_years_40 : decode cX9_years 40 = .ok (.getfield 160, 3) := by decide +kernel
theorem dX9_years_43 : decode cX9_years 43 = .ok (.invokevirtual 176, 3) := by decide +kernel
theorem dX9_years_46 : decode cX9_years 46 = .ok (.ireturn, 1) := by decide +kernel
theorem dX9_cost_0 : decode cX9_cost 0 = .ok (.aload_n 0, 1) := by decide +kernel
theorem dX9_cost_1 : decode cX9_cost 1 = .ok (.iload_n 1, 1) := by decide +kernel
theorem dX9_cost_2 : decode cX9_cost 2 = .ok (.invokevirtual 136, 3) := by decide +kernel
theorem dX9_cost_5 : decode cX9_cost 5 = .ok (.ifCond .eq 20, 3) := by decide +kernel
theorem dX9_cost_8 : decode cX9_cost 8 = .ok (.iload_n 3, 1) := by decide +kernel
theorem dX9_cost_9 : decode cX9_cost 9 = .ok (.bipush 103, 2) := by decide +kernel
theorem dX9_cost_11 : decode cX9_cost 11 = .ok (.invokestatic 102, 3) := by decide +kernel
theorem dX9_cost_14 : decode cX9_cost 14 = .ok (.ifCond .eq 11, 3) := by decide +kernel
theorem dX9_cost_17 : decode cX9_cost 17 = .ok (.aload_n 0, 1) := by decide +kernel
theorem dX9_cost_18 : decode cX9_cost 18 = .ok (.iload_n 2, 1) := by decide +kernel
theorem dX9_cost_19 : decode cX9_cost 19 = .ok (.invokevirtual 180, 3) := by decide +kernel
theorem dX9_cost_22 : decode cX9_cost 22 = .ok (.ifCond .ne 6, 3) := by decide +kernel
theorem dX9_cost_25 : decode cX9_cost 25 = .ok (.bipush (-2), 2) := by decide +kernel
theorem dX9_cost_27 : decode cX9_cost 27 = .ok (.ireturn, 1) := by decide +kernel
theorem dX9_cost_28 : decode cX9_cost 28 = .ok (.aload_n 0, 1) := by decide +kernel
theorem dX9_cost_29 : decode cX9_cost 29 = .ok (.iload_n 1, 1) := by decide +kernel
theorem dX9_cost_30 : decode cX9_cost 30 = .ok (.aload_n 0, 1) := by decide +kernel
theorem dX9_cost_31 : decode cX9_cost 31 = .ok (.getfield 64, 3) := by decide +kernel
theorem dX9_cost_34 : decode cX9_cost 34 = .ok (.getfield 122, 3) := by decide +kernel
theorem dX9_cost_37 : decode cX9_cost 37 = .ok (.iload_n 1, 1) := by decide +kernel
theorem dX9_cost_38 : decode cX9_cost 38 = .ok (.iaload, 1) := by decide +kernel
theorem dX9_cost_39 : decode cX9_cost 39 = .ok (.iload_n 3, 1) := by decide +kernel
theorem dX9_cost_40 : decode cX9_cost 40 = .ok (.invokevirtual 183, 3) := by decide +kernel
theorem dX9_cost_43 : decode cX9_cost 43 = .ok (.ireturn, 1) := by decide +kernel
theorem dX9_best_0 : decode cX9_best 0 = .ok (.iload_n 2, 1) := by decide +kernel
theorem dX9_best_1 : decode cX9_best 1 = .ok (.bipush 103, 2) := by decide +kernel
theorem dX9_best_3 : decode cX9_best 3 = .ok (.invokestatic 102, 3) := by decide +kernel
theorem dX9_best_6 : decode cX9_best 6 = .ok (.ifCond .eq 19, 3) := by decide +kernel
theorem dX9_best_9 : decode cX9_best 9 = .ok (.iload_n 3, 1) := by decide +kernel
theorem dX9_best_10 : decode cX9_best 10 = .ok (.iconst 1, 1) := by decide +kernel
theorem dX9_best_11 : decode cX9_best 11 = .ok (.invokestatic 102, 3) := by decide +kernel
theorem dX9_best_14 : decode cX9_best 14 = .ok (.ifCond .eq 11, 3) := by decide +kernel
theorem dX9_best_17 : decode cX9_best 17 = .ok (.aload_n 0, 1) := by decide +kernel
theorem dX9_best_18 : decode cX9_best 18 = .ok (.iload_n 1, 1) := by decide +kernel
theorem dX9_best_19 : decode cX9_best 19 = .ok (.invokevirtual 180, 3) := by decide +kernel
theorem dX9_best_22 : decode cX9_best 22 = .ok (.ifCond .ne 6, 3) := by decide +kernel
theorem dX9_best_25 : decode cX9_best 25 = .ok (.bipush (-2), 2) := by decide +kernel
theorem dX9_best_27 : decode cX9_best 27 = .ok (.ireturn, 1) := by decide +kernel
theorem dX9_best_28 : decode cX9_best 28 = .ok (.aload_n 0, 1) := by decide +kernel
theorem dX9_best_29 : decode cX9_best 29 = .ok (.iload_n 2, 1) := by decide +kernel
theorem dX9_best_30 : decode cX9_best 30 = .ok (.invokevirtual 186, 3) := by decide +kernel
theorem dX9_best_33 : decode cX9_best 33 = .ok (.istore 4, 2) := by decide +kernel
theorem dX9_best_35 : decode cX9_best 35 = .ok (.iload 4, 2) := by decide +kernel
theorem dX9_best_37 : decode cX9_best 37 = .ok (.ifCond .ge 5, 3) := by decide +kernel
theorem dX9_best_40 : decode cX9_best 40 = .ok (.iconst (-1), 1) := by decide +kernel
theorem dX9_best_41 : decode cX9_best 41 = .ok (.ireturn, 1) := by decide +kernel
theorem dX9_best_42 : decode cX9_best 42 = .ok (.iload_n 3, 1) := by decide +kernel
theorem dX9_best_43 : decode cX9_best 43 = .ok (.iconst 1, 1) := by decide +kernel
theorem dX9_best_44 : decode cX9_best 44 = .ok (.if_icmp .ne 8, 3) := by decide +kernel
theorem dX9_best_47 : decode cX9_best 47 = .ok (.iload 4, 2) := by decide +kernel
theorem dX9_best_49 : decode cX9_best 49 = .ok (.goto 10, 3) := by decide +kernel
theorem dX9_best_52 : decode cX9_best 52 = .ok (.aload_n 0, 1) := by decide +kernel
theorem dX9_best_53 : decode cX9_best 53 = .ok (.iload 4, 2) := by decide +kernel
theorem dX9_best_55 : decode cX9_best 55 = .ok (.iload_n 2, 1) := by decide +kernel
theorem dX9_best_56 : decode cX9_best 56 = .ok (.invokevirtual 189, 3) := by decide +kernel
theorem dX9_best_59 : decode cX9_best 59 = .ok (.ireturn, 1) := by decide +kernel
theorem dX9_when_0 : decode cX9_when 0 = .ok (.aload_n 0, 1) := by decide +kernel
theorem dX9_when_1 : decode cX9_when 1 = .ok (.iload_n 1, 1) := by decide +kernel
theorem dX9_when_2 : decode cX9_when 2 = .ok (.invokevirtual 147, 3) := by decide +kernel
theorem dX9_when_5 : decode cX9_when 5 = .ok (.ifCond .eq 11, 3) := by decide +kernel
theorem dX9_when_8 : decode cX9_when 8 = .ok (.iload_n 2, 1) := by decide +kernel
theorem dX9_when_9 : decode cX9_when 9 = .ok (.iconst 1, 1) := by decide +kernel
theorem dX9_when_10 : decode cX9_when 10 = .ok (.invokestatic 102, 3) := by decide +kernel
theorem dX9_when_13 : decode cX9_when 13 = .ok (.ifCond .ne 6, 3) := by decide +kernel
theorem dX9_when_16 : decode cX9_when 16 = .ok (.bipush (-2), 2) := by decide +kernel
theorem dX9_when_18 : decode cX9_when 18 = .ok (.ireturn, 1) := by decide +kernel
theorem dX9_when_19 : decode cX9_when 19 = .ok (.aload_n 0, 1) := by decide +kernel
theorem dX9_when_20 : decode cX9_when 20 = .ok (.iload_n 1, 1) := by decide +kernel
theorem dX9_when_21 : decode cX9_when 21 = .ok (.invokevirtual 192, 3) := by decide +kernel
theorem dX9_when_24 : decode cX9_when 24 = .ok (.ifCond .ne 6, 3) := by decide +kernel
theorem dX9_when_27 : decode cX9_when 27 = .ok (.bipush (-3), 2) := by decide +kernel
theorem dX9_when_29 : decode cX9_when 29 = .ok (.ireturn, 1) := by decide +kernel
theorem dX9_when_30 : decode cX9_when 30 = .ok (.iconst (-1), 1) := by decide +kernel
theorem dX9_when_31 : decode cX9_when 31 = .ok (.istore_n 3, 1) := by decide +kernel
theorem dX9_when_32 : decode cX9_when 32 = .ok (.iconst (-1), 1) := by decide +kernel
theorem dX9_when_33 : decode cX9_when 33 = .ok (.istore 4, 2) := by decide +kernel
theorem dX9_when_35 : decode cX9_when 35 = .ok (.iconst 0, 1) := by decide +kernel
theorem dX9_when_36 : decode cX9_when 36 = .ok (.istore 5, 2) := by decide +kernel
theorem dX9_when_38 : decode cX9_when 38 = .ok (.iload 5, 2) := by decide +kernel
theorem dX9_when_40 : decode cX9_when 40 = .ok (.bipush 103, 2) := by decide +kernel
theorem dX9_when_42 : decode cX9_when 42 = .ok (.if_icmp .gt 41, 3) := by decide +kernel
theorem dX9_when_45 : decode cX9_when 45 = .ok (.aload_n 0, 1) := by decide +kernel
theorem dX9_when_46 : decode cX9_when 46 = .ok (.iload 5, 2) := by decide +kernel
theorem dX9_when_48 : decode cX9_when 48 = .ok (.invokevirtual 186, 3) := by decide +kernel
theorem dX9_when_51 : decode cX9_when 51 = .ok (.istore 6, 2) := by decide +kernel
theorem dX9_when_53 : decode cX9_when 53 = .ok (.iload 6, 2) := by decide +kernel
theorem dX9_when_55 : decode cX9_when 55 = .ok (.ifCond .lt 22, 3) := by decide +kernel
theorem dX9_when_58 : decode cX9_when 58 = .ok (.iload 4, 2) := by decide +kernel
theorem dX9_when_60 : decode cX9_when 60 = .ok (.ifCond .lt 10, 3) := by decide +kernel
theorem dX9_when_63 : decode cX9_when 63 = .ok (.iload 6, 2) := by decide +kernel
theorem dX9_when_65 : decode cX9_when 65 = .ok (.iload 4, 2) := by decide +kernel
theorem dX9_when_67 : decode cX9_when 67 = .ok (.if_icmp .ge 10, 3) := by decide +kernel
theorem dX9_when_70 : decode cX9_when 70 = .ok (.iload 5, 2) := by decide +kernel
theorem dX9_when_72 : decode cX9_when 72 = .ok (.istore_n 3, 1) := by decide +kernel
theorem dX9_when_73 : decode cX9_when 73 = .ok (.iload 6, 2) := by decide +kernel
theorem dX9_when_75 : decode cX9_when 75 = .ok (.istore 4, 2) := by decide +kernel
theorem dX9_when_77 : decode cX9_when 77 = .ok (.iinc 5 1, 3) := by decide +kernel
theorem dX9_when_80 : decode cX9_when 80 = .ok (.goto (-42), 3) := by decide +kernel
theorem dX9_when_83 : decode cX9_when 83 = .ok (.iload_n 2, 1) := by decide +kernel
theorem dX9_when_84 : decode cX9_when 84 = .ok (.ifCond .ne 7, 3) := by decide +kernel
theorem dX9_when_87 : decode cX9_when 87 = .ok (.iload_n 3, 1) := by decide +kernel
theorem dX9_when_88 : decode cX9_when 88 = .ok (.goto 5, 3) := by decide +kernel
theorem dX9_when_91 : decode cX9_when 91 = .ok (.iload 4, 2) := by decide +kernel
theorem dX9_when_93 : decode cX9_when 93 = .ok (.ireturn, 1) := by decide +kernel
theorem dX9_buy_0 : decode cX9_buy 0 = .ok (.aload_n 0, 1) := by decide +kernel
theorem dX9_buy_1 : decode cX9_buy 1 = .ok (.iload_n 1, 1) := by decide +kernel
theorem dX9_buy_2 : decode cX9_buy 2 = .ok (.invokevirtual 136, 3) := by decide +kernel
theorem dX9_buy_5 : decode cX9_buy 5 = .ok (.ifCond .eq 11, 3) := by decide +kernel
theorem dX9_buy_8 : decode cX9_buy 8 = .ok (.aload_n 0, 1) := by decide +kernel
theorem dX9_buy_9 : decode cX9_buy 9 = .ok (.iload_n 2, 1) := by decide +kernel
theorem dX9_buy_10 : decode cX9_buy 10 = .ok (.invokevirtual 180, 3) := by decide +kernel
theorem dX9_buy_13 : decode cX9_buy 13 = .ok (.ifCond .ne 6, 3) := by decide +kernel
theorem dX9_buy_16 : decode cX9_buy 16 = .ok (.bipush (-2), 2) := by decide +kernel
theorem dX9_buy_18 : decode cX9_buy 18 = .ok (.ireturn, 1) := by decide +kernel
theorem dX9_buy_19 : decode cX9_buy 19 = .ok (.aload_n 0, 1) := by decide +kernel
theorem dX9_buy_20 : decode cX9_buy 20 = .ok (.iload_n 1, 1) := by decide +kernel
theorem dX9_buy_21 : decode cX9_buy 21 = .ok (.aload_n 0, 1) := by decide +kernel
theorem dX9_buy_22 : decode cX9_buy 22 = .ok (.getfield 64, 3) := by decide +kernel
theorem dX9_buy_25 : decode cX9_buy 25 = .ok (.getfield 122, 3) := by decide +kernel
theorem dX9_buy_28 : decode cX9_buy 28 = .ok (.iload_n 1, 1) := by decide +kernel
theorem dX9_buy_29 : decode cX9_buy 29 = .ok (.iaload, 1) := by decide +kernel
theorem dX9_buy_30 : decode cX9_buy 30 = .ok (.iconst 0, 1) := by decide +kernel
theorem dX9_buy_31 : decode cX9_buy 31 = .ok (.invokevirtual 195, 3) := by decide +kernel
theorem dX9_buy_34 : decode cX9_buy 34 = .ok (.istore_n 3, 1) := by decide +kernel
theorem dX9_buy_35 : decode cX9_buy 35 = .ok (.iload_n 3, 1) := by decide +kernel
theorem dX9_buy_36 : decode cX9_buy 36 = .ok (.ifCond .ge 6, 3) := by decide +kernel
theorem dX9_buy_39 : decode cX9_buy 39 = .ok (.bipush (-3), 2) := by decide +kernel
theorem dX9_buy_41 : decode cX9_buy 41 = .ok (.ireturn, 1) := by decide +kernel
theorem dX9_buy_42 : decode cX9_buy 42 = .ok (.aload_n 0, 1) := by decide +kernel
theorem dX9_buy_43 : decode cX9_buy 43 = .ok (.getfield 64, 3) := by decide +kernel
theorem dX9_buy_46 : decode cX9_buy 46 = .ok (.dup, 1) := by decide +kernel
theorem dX9_buy_47 : decode cX9_buy 47 = .ok (.getfield 169, 3) := by decide +kernel
theorem dX9_buy_50 : decode cX9_buy 50 = .ok (.iload_n 2, 1) := by decide +kernel
theorem dX9_buy_51 : decode cX9_buy 51 = .ok (.ior, 1) := by decide +kernel
theorem dX9_buy_52 : decode cX9_buy 52 = .ok (.putfield 169, 3) := by decide +kernel
theorem dX9_buy_55 : decode cX9_buy 55 = .ok (.aload_n 0, 1) := by decide +kernel
theorem dX9_buy_56 : decode cX9_buy 56 = .ok (.getfield 64, 3) := by decide +kernel
theorem dX9_buy_59 : decode cX9_buy 59 = .ok (.dup, 1) := by decide +kernel
theorem dX9_buy_60 : decode cX9_buy 60 = .ok (.getfield 198, 3) := by decide +kernel
theorem dX9_buy_63 : decode cX9_buy 63 = .ok (.iload_n 3, 1) := by decide +kernel
theorem dX9_buy_64 : decode cX9_buy 64 = .ok (.iadd, 1) := by decide +kernel
theorem dX9_buy_65 : decode cX9_buy 65 = .ok (.putfield 198, 3) := by decide +kernel
theorem dX9_buy_68 : decode cX9_buy 68 = .ok (.iload_n 3, 1) := by decide +kernel
theorem dX9_buy_69 : decode cX9_buy 69 = .ok (.ireturn, 1) := by decide +kernel
theorem dX9_pass_0 : decode cX9_pass 0 = .ok (.aload_n 0, 1) := by decide +kernel
theorem dX9_pass_1 : decode cX9_pass 1 = .ok (.getfield 64, 3) := by decide +kernel
theorem dX9_pass_4 : decode cX9_pass 4 = .ok (.dup, 1) := by decide +kernel
theorem dX9_pass_5 : decode cX9_pass 5 = .ok (.getfield 160, 3) := by decide +kernel
theorem dX9_pass_8 : decode cX9_pass 8 = .ok (.iconst 1, 1) := by decide +kernel
theorem dX9_pass_9 : decode cX9_pass 9 = .ok (.iadd, 1) := by decide +kernel
theorem dX9_pass_10 : decode cX9_pass 10 = .ok (.putfield 160, 3) := by decide +kernel
theorem dX9_pass_13 : decode cX9_pass 13 = .ok (.aload_n 0, 1) := by decide +kernel
theorem dX9_pass_14 : decode cX9_pass 14 = .ok (.getfield 64, 3) := by decide +kernel
theorem dX9_pass_17 : decode cX9_pass 17 = .ok (.getfield 160, 3) := by decide +kernel
theorem dX9_pass_20 : decode cX9_pass 20 = .ok (.bipush 52, 2) := by decide +kernel
theorem dX9_pass_22 : decode cX9_pass 22 = .ok (.if_icmp .lt 32, 3) := by decide +kernel
theorem dX9_pass_25 : decode cX9_pass 25 = .ok (.aload_n 0, 1) := by decide +kernel
theorem dX9_pass_26 : decode cX9_pass 26 = .ok (.getfield 64, 3) := by decide +kernel
theorem dX9_pass_29 : decode cX9_pass 29 = .ok (.iconst 0, 1) := by decide +kernel
theorem dX9_pass_30 : decode cX9_pass 30 = .ok (.putfield 160, 3) := by decide +kernel
theorem dX9_pass_33 : decode cX9_pass 33 = .ok (.aload_n 0, 1) := by decide +kernel
theorem dX9_pass_34 : decode cX9_pass 34 = .ok (.getfield 64, 3) := by decide +kernel
theorem dX9_pass_37 : decode cX9_pass 37 = .ok (.bipush 99, 2) := by decide +kernel
theorem dX9_pass_39 : decode cX9_pass 39 = .ok (.aload_n 0, 1) := by decide +kernel
theorem dX9_pass_40 : decode cX9_pass 40 = .ok (.getfield 64, 3) := by decide +kernel
theorem dX9_pass_43 : decode cX9_pass 43 = .ok (.getfield 201, 3) := by decide +kernel
theorem dX9_pass_46 : decode cX9_pass 46 = .ok (.iconst 1, 1) := by decide +kernel
theorem dX9_pass_47 : decode cX9_pass 47 = .ok (.iadd, 1) := by decide +kernel
theorem dX9_pass_48 : decode cX9_pass 48 = .ok (.invokestatic 204, 3) := by decide +kernel
theorem dX9_pass_51 : decode cX9_pass 51 = .ok (.putfield 201, 3) := by decide +kernel
theorem dX9_pass_54 : decode cX9_pass 54 = .ok (.iconst 0, 1) := by decide +kernel
theorem dX9_pass_55 : decode cX9_pass 55 = .ok (.istore_n 1, 1) := by decide +kernel
theorem dX9_pass_56 : decode cX9_pass 56 = .ok (.iload_n 1, 1) := by decide +kernel
theorem dX9_pass_57 : decode cX9_pass 57 = .ok (.aload_n 0, 1) := by decide +kernel
theorem dX9_pass_58 : decode cX9_pass 58 = .ok (.getfield 106, 3) := by decide +kernel
theorem dX9_pass_61 : decode cX9_pass 61 = .ok (.if_icmp .ge 53, 3) := by decide +kernel
theorem dX9_pass_64 : decode cX9_pass 64 = .ok (.aload_n 0, 1) := by decide +kernel
theorem dX9_pass_65 : decode cX9_pass 65 = .ok (.getfield 11, 3) := by decide +kernel
theorem dX9_pass_68 : decode cX9_pass 68 = .ok (.iload_n 1, 1) := by decide +kernel
theorem dX9_pass_69 : decode cX9_pass 69 = .ok (.aaload, 1) := by decide +kernel
theorem dX9_pass_70 : decode cX9_pass 70 = .ok (.getfield 112, 3) := by decide +kernel
theorem dX9_pass_73 : decode cX9_pass 73 = .ok (.aload_n 0, 1) := by decide +kernel
theorem dX9_pass_74 : decode cX9_pass 74 = .ok (.getfield 64, 3) := by decide +kernel
theorem dX9_pass_77 : decode cX9_pass 77 = .ok (.getfield 160, 3) := by decide +kernel
theorem dX9_pass_80 : decode cX9_pass 80 = .ok (.if_icmp .ne 28, 3) := by decide +kernel
theorem dX9_pass_83 : decode cX9_pass 83 = .ok (.aload_n 0, 1) := by decide +kernel
theorem dX9_pass_84 : decode cX9_pass 84 = .ok (.getfield 64, 3) := by decide +kernel
theorem dX9_pass_87 : decode cX9_pass 87 = .ok (.getfield 118, 3) := by decide +kernel
theorem dX9_pass_90 : decode cX9_pass 90 = .ok (.iload_n 1, 1) := by decide +kernel
theorem dX9_pass_91 : decode cX9_pass 91 = .ok (.bipush 99, 2) := by decide +kernel
theorem dX9_pass_93 : decode cX9_pass 93 = .ok (.aload_n 0, 1) := by decide +kernel
theorem dX9_pass_94 : decode cX9_pass 94 = .ok (.getfield 64, 3) := by decide +kernel
theorem dX9_pass_97 : decode cX9_pass 97 = .ok (.getfield 118, 3) := by decide +kernel
theorem dX9_pass_100 : decode cX9_pass 100 = .ok (.iload_n 1, 1) := by decide +kernel
theorem dX9_pass_101 : decode cX9_pass 101 = .ok (.iaload, 1) := by decide +kernel
theorem dX9_pass_102 : decode cX9_pass 102 = .ok (.iconst 1, 1) := by decide +kernel
theorem dX9_pass_103 : decode cX9_pass 103 = .ok (.iadd, 1) := by decide +kernel
theorem dX9_pass_104 : decode cX9_pass 104 = .ok (.invokestatic 204, 3) := by decide +kernel
theorem dX9_pass_107 : decode cX9_pass 107 = .ok (.iastore, 1) := by decide +kernel
theorem dX9_pass_108 : decode cX9_pass 108 = .ok (.iinc 1 1, 3) := by decide +kernel
theorem dX9_pass_111 : decode cX9_pass 111 = .ok (.goto (-55), 3) := by decide +kernel
theorem dX9_pass_114 : decode cX9_pass 114 = .ok (.aload_n 0, 1) := by decide +kernel
theorem dX9_pass_115 : decode cX9_pass 115 = .ok (.getfield 64, 3) := by decide +kernel
theorem dX9_pass_118 : decode cX9_pass 118 = .ok (.getfield 160, 3) := by decide +kernel
theorem dX9_pass_121 : decode cX9_pass 121 = .ok (.ireturn, 1) := by decide +kernel
theorem dX9_showAlone_0 : decode cX9_showAlone 0 = .ok (.aload_n 0, 1) := by decide +kernel
theorem dX9_showAlone_1 : decode cX9_showAlone 1 = .ok (.getfield 64, 3) := by decide +kernel
theorem dX9_showAlone_4 : decode cX9_showAlone 4 = .ok (.getfield 169, 3) := by decide +kernel
theorem dX9_showAlone_7 : decode cX9_showAlone 7 = .ok (.iload_n 1, 1) := by decide +kernel
theorem dX9_showAlone_8 : decode cX9_showAlone 8 = .ok (.invokestatic 209, 3) := by decide +kernel
theorem dX9_showAlone_11 : decode cX9_showAlone 11 = .ok (.ifCond .eq 5, 3) := by decide +kernel
theorem dX9_showAlone_14 : decode cX9_showAlone 14 = .ok (.iconst 0, 1) := by decide +kernel
theorem dX9_showAlone_15 : decode cX9_showAlone 15 = .ok (.ireturn, 1) := by decide +kernel
theorem dX9_showAlone_16 : decode cX9_showAlone 16 = .ok (.aload_n 0, 1) := by decide +kernel
theorem dX9_showAlone_17 : decode cX9_showAlone 17 = .ok (.getfield 43, 3) := by decide +kernel
theorem dX9_showAlone_20 : decode cX9_showAlone 20 = .ok (.aload_n 0, 1) := by decide +kernel
theorem dX9_showAlone_21 : decode cX9_showAlone 21 = .ok (.getfield 17, 3) := by decide +kernel
theorem dX9_showAlone_24 : decode cX9_showAlone 24 = .ok (.iload_n 1, 1) := by decide +kernel
theorem dX9_showAlone_25 : decode cX9_showAlone 25 = .ok (.aaload, 1) := by decide +kernel
theorem dX9_showAlone_26 : decode cX9_showAlone 26 = .ok (.getfield 127, 3) := by decide +kernel
theorem dX9_showAlone_29 : decode cX9_showAlone 29 = .ok (.aload_n 0, 1) := by decide +kernel
theorem dX9_showAlone_30 : decode cX9_showAlone 30 = .ok (.getfield 17, 3) := by decide +kernel
theorem dX9_showAlone_33 : decode cX9_showAlone 33 = .ok (.iload_n 1, 1) := by decide +kernel
theorem dX9_showAlone_34 : decode cX9_showAlone 34 = .ok (.aaload, 1) := by decide +kernel
theorem dX9_showAlone_35 : decode cX9_showAlone 35 = .ok (.getfield 130, 3) := by decide +kernel
theorem dX9_showAlone_38 : decode cX9_showAlone 38 = .ok (.aload_n 0, 1) := by decide +kernel
theorem dX9_showAlone_39 : decode cX9_showAlone 39 = .ok (.getfield 64, 3) := by decide +kernel
theorem dX9_showAlone_42 : decode cX9_showAlone 42 = .ok (.getfield 133, 3) := by decide +kernel
theorem dX9_showAlone_45 : decode cX9_showAlone 45 = .ok (.iload_n 1, 1) := by decide +kernel
theorem dX9_showAlone_46 : decode cX9_showAlone 46 = .ok (.iaload, 1) := by decide +kernel
theorem dX9_showAlone_47 : decode cX9_showAlone 47 = .ok (.invokevirtual 212, 3) := by decide +kernel
theorem dX9_showAlone_50 : decode cX9_showAlone 50 = .ok (.iconst 1, 1) := by decide +kernel
theorem dX9_showAlone_51 : decode cX9_showAlone 51 = .ok (.ireturn, 1) := by decide +kernel
theorem dX9_tie_0 : decode cX9_tie 0 = .ok (.iload_n 1, 1) := by decide +kernel
theorem dX9_tie_1 : decode cX9_tie 1 = .ok (.ifCond .eq 14, 3) := by decide +kernel
theorem dX9_tie_4 : decode cX9_tie 4 = .ok (.iload_n 1, 1) := by decide +kernel
theorem dX9_tie_5 : decode cX9_tie 5 = .ok (.aload_n 0, 1) := by decide +kernel
theorem dX9_tie_6 : decode cX9_tie 6 = .ok (.invokevirtual 216, 3) := by decide +kernel
theorem dX9_tie_9 : decode cX9_tie 9 = .ok (.iconst (-1), 1) := by decide +kernel
theorem dX9_tie_10 : decode cX9_tie 10 = .ok (.ixor, 1) := by decide +kernel
theorem dX9_tie_11 : decode cX9_tie 11 = .ok (.iand, 1) := by decide +kernel
theorem dX9_tie_12 : decode cX9_tie 12 = .ok (.ifCond .eq 5, 3) := by decide +kernel
theorem dX9_tie_15 : decode cX9_tie 15 = .ok (.iconst 0, 1) := by decide +kernel
theorem dX9_tie_16 : decode cX9_tie 16 = .ok (.ireturn, 1) := by decide +kernel
theorem dX9_tie_17 : decode cX9_tie 17 = .ok (.iconst 0, 1) := by decide +kernel
theorem dX9_tie_18 : decode cX9_tie 18 = .ok (.istore_n 2, 1) := by decide +kernel
theorem dX9_tie_19 : decode cX9_tie 19 = .ok (.iconst 0, 1) := by decide +kernel
theorem dX9_tie_20 : decode cX9_tie 20 = .ok (.istore_n 3, 1) := by decide +kernel
theorem dX9_tie_21 : decode cX9_tie 21 = .ok (.iconst 0, 1) := by decide +kernel
theorem dX9_tie_22 : decode cX9_tie 22 = .ok (.istore 4, 2) := by decide +kernel
theorem dX9_tie_24 : decode cX9_tie 24 = .ok (.iconst (-1), 1) := by decide +kernel
theorem dX9_tie_25 : decode cX9_tie 25 = .ok (.istore 5, 2) := by decide +kernel
theorem dX9_tie_27 : decode cX9_tie 27 = .ok (.iconst 0, 1) := by decide +kernel
theorem dX9_tie_28 : decode cX9_tie 28 = .ok (.istore 6, 2) := by decide +kernel
theorem dX9_tie_30 : decode cX9_tie 30 = .ok (.iload 6, 2) := by decide +kernel
theorem dX9_tie_32 : decode cX9_tie 32 = .ok (.aload_n 0, 1) := by decide +kernel
theorem dX9_tie_33 : decode cX9_tie 33 = .ok (.getfield 124, 3) := by decide +kernel
theorem dX9_tie_36 : decode cX9_tie 36 = .ok (.if_icmp .ge 83, 3) := by decide +kernel
theorem dX9_tie_39 : decode cX9_tie 39 = .ok (.iload_n 1, 1) := by decide +kernel
theorem dX9_tie_40 : decode cX9_tie 40 = .ok (.iload 6, 2) := by decide +kernel
theorem dX9_tie_42 : decode cX9_tie 42 = .ok (.invokestatic 209, 3) := by decide +kernel
theorem dX9_tie_45 : decode cX9_tie 45 = .ok (.ifCond .eq 68, 3) := by decide +kernel
theorem dX9_tie_48 : decode cX9_tie 48 = .ok (.iload_n 2, 1) := by decide +kernel
theorem dX9_tie_49 : decode cX9_tie 49 = .ok (.aload_n 0, 1) := by decide +kernel
theorem dX9_tie_50 : decode cX9_tie 50 = .ok (.getfield 17, 3) := by decide +kernel
theorem dX9_tie_53 : decode cX9_tie 53 = .ok (.iload 6, 2) := by decide +kernel
theorem dX9_tie_55 : decode cX9_tie 55 = .ok (.aaload, 1) := by decide +kernel
theorem dX9_tie_56 : decode cX9_tie 56 = .ok (.getfield 127, 3) := by decide +kernel
theorem dX9_tie_59 : decode cX9_tie 59 = .ok (.iadd, 1) := by decide +kernel
theorem dX9_tie_60 : decode cX9_tie 60 = .ok (.istore_n 2, 1) := by decide +kernel
theorem dX9_tie_61 : decode cX9_tie 61 = .ok (.iload_n 3, 1) := by decide +kernel
theorem dX9_tie_62 : decode cX9_tie 62 = .ok (.aload_n 0, 1) := by decide +kernel
theorem dX9_tie_63 : decode cX9_tie 63 = .ok (.getfield 17, 3) := by decide +kernel
theorem dX9_tie_66 : decode cX9_tie 66 = .ok (.iload 6, 2) := by decide +kernel
theorem dX9_tie_68 : decode cX9_tie 68 = .ok (.aaload, 1) := by decide +kernel
theorem dX9_tie_69 : decode cX9_tie 69 = .ok (.getfield 130, 3) := by decide +kernel
theorem dX9_tie_72 : decode cX9_tie 72 = .ok (.iadd, 1) := by decide +kernel
theorem dX9_tie_73 : decode cX9_tie 73 = .ok (.istore_n 3, 1) := by decide +kernel
theorem dX9_tie_74 : decode cX9_tie 74 = .ok (.iload 4, 2) := by decide +kernel
theorem dX9_tie_76 : decode cX9_tie 76 = .ok (.ifCond .eq 18, 3) := by decide +kernel
theorem dX9_tie_79 : decode cX9_tie 79 = .ok (.iload 5, 2) := by decide +kernel
theorem dX9_tie_81 : decode cX9_tie 81 = .ok (.aload_n 0, 1) := by decide +kernel
theorem dX9_tie_82 : decode cX9_tie 82 = .ok (.getfield 64, 3) := by decide +kernel
theorem dX9_tie_85 : decode cX9_tie 85 = .ok (.getfield 133, 3) := by decide +kernel
theorem dX9_tie_88 : decode cX9_tie 88 = .ok (.iload 6, 2) := by decide +kernel
theorem dX9_tie_90 : decode cX9_tie 90 = .ok (.iaload, 1) := by decide +kernel
theorem dX9_tie_91 : decode cX9_tie 91 = .ok (.if_icmp .ne 16, 3) := by decide +kernel
theorem dX9_tie_94 : decode cX9_tie 94 = .ok (.aload_n 0, 1) := by decide +kernel
theorem dX9_tie_95 : decode cX9_tie 95 = .ok (.getfield 64, 3) := by decide +kernel
theorem dX9_tie_98 : decode cX9_tie 98 = .ok (.getfield 133, 3) := by decide +kernel
theorem dX9_tie_101 : decode cX9_tie 101 = .ok (.iload 6, 2) := by decide +kernel
theorem dX9_tie_103 : decode cX9_tie 103 = .ok (.iaload, 1) := by decide +kernel
theorem dX9_tie_104 : decode cX9_tie 104 = .ok (.goto 4, 3) := by decide +kernel
theorem dX9_tie_107 : decode cX9_tie 107 = .ok (.iconst (-1), 1) := by decide +kernel
theorem dX9_tie_108 : decode cX9_tie 108 = .ok (.istore 5, 2) := by decide +kernel
theorem dX9_tie_110 : decode cX9_tie 110 = .ok (.iinc 4 1, 3) := by decide +kernel
theorem dX9_tie_113 : decode cX9_tie 113 = .ok (.iinc 6 1, 3) := by decide +kernel
theorem dX9_tie_116 : decode cX9_tie 116 = .ok (.goto (-86), 3) := by decide +kernel
theorem dX9_tie_119 : decode cX9_tie 119 = .ok (.aload_n 0, 1) := by decide +kernel
theorem dX9_tie_120 : decode cX9_tie 120 = .ok (.getfield 43, 3) := by decide +kernel
theorem dX9_tie_123 : decode cX9_tie 123 = .ok (.iload_n 2, 1) := by decide +kernel
theorem dX9_tie_124 : decode cX9_tie 124 = .ok (.iload_n 3, 1) := by decide +kernel
theorem dX9_tie_125 : decode cX9_tie 125 = .ok (.iload 5, 2) := by decide +kernel
theorem dX9_tie_127 : decode cX9_tie 127 = .ok (.invokevirtual 212, 3) := by decide +kernel
theorem dX9_tie_130 : decode cX9_tie 130 = .ok (.iload 4, 2) := by decide +kernel
theorem dX9_tie_132 : decode cX9_tie 132 = .ok (.iconst 1, 1) := by decide +kernel
theorem dX9_tie_133 : decode cX9_tie 133 = .ok (.if_icmp .eq 14, 3) := by decide +kernel
theorem dX9_tie_136 : decode cX9_tie 136 = .ok (.iload_n 2, 1) := by decide +kernel
theorem dX9_tie_137 : decode cX9_tie 137 = .ok (.aload_n 0, 1) := by decide +kernel
theorem dX9_tie_138 : decode cX9_tie 138 = .ok (.getfield 64, 3) := by decide +kernel
theorem dX9_tie_141 : decode cX9_tie 141 = .ok (.getfield 75, 3) := by decide +kernel
theorem dX9_tie_144 : decode cX9_tie 144 = .ok (.if_icmp .gt 7, 3) := by decide +kernel
theorem dX9_tie_147 : decode cX9_tie 147 = .ok (.iconst 1, 1) := by decide +kernel
theorem dX9_tie_148 : decode cX9_tie 148 = .ok (.goto 4, 3) := by decide +kernel
theorem dX9_tie_151 : decode cX9_tie 151 = .ok (.iconst 0, 1) := by decide +kernel
theorem dX9_tie_152 : decode cX9_tie 152 = .ok (.ireturn, 1) := by decide +kernel
theorem dX9_priceBy_0 : decode cX9_priceBy 0 = .ok (.aload_n 0, 1) := by decide +kernel
theorem dX9_priceBy_1 : decode cX9_priceBy 1 = .ok (.getfield 64, 3) := by decide +kernel
theorem dX9_priceBy_4 : decode cX9_priceBy 4 = .ok (.getfield 160, 3) := by decide +kernel
theorem dX9_priceBy_7 : decode cX9_priceBy 7 = .ok (.iload_n 3, 1) := by decide +kernel
theorem dX9_priceBy_8 : decode cX9_priceBy 8 = .ok (.iadd, 1) := by decide +kernel
theorem dX9_priceBy_9 : decode cX9_priceBy 9 = .ok (.bipush 52, 2) := by decide +kernel
theorem dX9_priceBy_11 : decode cX9_priceBy 11 = .ok (.irem, 1) := by decide +kernel
theorem dX9_priceBy_12 : decode cX9_priceBy 12 = .ok (.istore 4, 2) := by decide +kernel
theorem dX9_priceBy_14 : decode cX9_priceBy 14 = .ok (.aload_n 0, 1) := by decide +kernel
theorem dX9_priceBy_15 : decode cX9_priceBy 15 = .ok (.getfield 11, 3) := by decide +kernel
theorem dX9_priceBy_18 : decode cX9_priceBy 18 = .ok (.iload_n 1, 1) := by decide +kernel
theorem dX9_priceBy_19 : decode cX9_priceBy 19 = .ok (.aaload, 1) := by decide +kernel
theorem dX9_priceBy_20 : decode cX9_priceBy 20 = .ok (.iload_n 3, 1) := by decide +kernel
theorem dX9_priceBy_21 : decode cX9_priceBy 21 = .ok (.aload_n 0, 1) := by decide +kernel
theorem dX9_priceBy_22 : decode cX9_priceBy 22 = .ok (.getfield 64, 3) := by decide +kernel
theorem dX9_priceBy_25 : decode cX9_priceBy 25 = .ok (.getfield 118, 3) := by decide +kernel
theorem dX9_priceBy_28 : decode cX9_priceBy 28 = .ok (.iload_n 1, 1) := by decide +kernel
theorem dX9_priceBy_29 : decode cX9_priceBy 29 = .ok (.iaload, 1) := by decide +kernel
theorem dX9_priceBy_30 : decode cX9_priceBy 30 = .ok (.aload_n 0, 1) := by decide +kernel
theorem dX9_priceBy_31 : decode cX9_priceBy 31 = .ok (.getfield 64, 3) := by decide +kernel
theorem dX9_priceBy_34 : decode cX9_priceBy 34 = .ok (.getfield 160, 3) := by decide +kernel
theorem dX9_priceBy_37 : decode cX9_priceBy 37 = .ok (.invokevirtual 176, 3) := by decide +kernel
theorem dX9_priceBy_40 : decode cX9_priceBy 40 = .ok (.istore 5, 2) := by decide +kernel
theorem dX9_priceBy_42 : decode cX9_priceBy 42 = .ok (.aload_n 0, 1) := by decide +kernel
theorem dX9_priceBy_43 : decode cX9_priceBy 43 = .ok (.getfield 43, 3) := by decide +kernel
theorem dX9_priceBy_46 : decode cX9_priceBy 46 = .ok (.getfield 219, 3) := by decide +kernel
theorem dX9_priceBy_49 : decode cX9_priceBy 49 = .ok (.iconst 0, 1) := by decide +kernel
theorem dX9_priceBy_50 : decode cX9_priceBy 50 = .ok (.iload 5, 2) := by decide +kernel
theorem dX9_priceBy_52 : decode cX9_priceBy 52 = .ok (.iastore, 1) := by decide +kernel
theorem dX9_priceBy_53 : decode cX9_priceBy 53 = .ok (.aload_n 0, 1) := by decide +kernel
theorem dX9_priceBy_54 : decode cX9_priceBy 54 = .ok (.getfield 43, 3) := by decide +kernel
theorem dX9_priceBy_57 : decode cX9_priceBy 57 = .ok (.getfield 219, 3) := by decide +kernel
theorem dX9_priceBy_60 : decode cX9_priceBy 60 = .ok (.iconst 3, 1) := by decide +kernel
theorem dX9_priceBy_61 : decode cX9_priceBy 61 = .ok (.iload 4, 2) := by decide +kernel
theorem dX9_priceBy_63 : decode cX9_priceBy 63 = .ok (.iastore, 1) := by decide +kernel
theorem dX9_priceBy_64 : decode cX9_priceBy 64 = .ok (.aload_n 0, 1) := by decide +kernel
theorem dX9_priceBy_65 : decode cX9_priceBy 65 = .ok (.getfield 43, 3) := by decide +kernel
theorem dX9_priceBy_68 : decode cX9_priceBy 68 = .ok (.getfield 219, 3) := by decide +kernel
theorem dX9_priceBy_71 : decode cX9_priceBy 71 = .ok (.iconst 4, 1) := by decide +kernel
theorem dX9_priceBy_72 : decode cX9_priceBy 72 = .ok (.iload_n 2, 1) := by decide +kernel
theorem dX9_priceBy_73 : decode cX9_priceBy 73 = .ok (.iastore, 1) := by decide +kernel
theorem dX9_priceBy_74 : decode cX9_priceBy 74 = .ok (.aload_n 0, 1) := by decide +kernel
theorem dX9_priceBy_75 : decode cX9_priceBy 75 = .ok (.getfield 43, 3) := by decide +kernel
theorem dX9_priceBy_78 : decode cX9_priceBy 78 = .ok (.getfield 219, 3) := by decide +kernel
theorem dX9_priceBy_81 : decode cX9_priceBy 81 = .ok (.iconst 5, 1) := by decide +kernel
theorem dX9_priceBy_82 : decode cX9_priceBy 82 = .ok (.aload_n 0, 1) := by decide +kernel
theorem dX9_priceBy_83 : decode cX9_priceBy 83 = .ok (.getfield 43, 3) := by decide +kernel
theorem dX9_priceBy_86 : decode cX9_priceBy 86 = .ok (.getfield 222, 3) := by decide +kernel
theorem dX9_priceBy_89 : decode cX9_priceBy 89 = .ok (.iload_n 1, 1) := by decide +kernel
theorem dX9_priceBy_90 : decode cX9_priceBy 90 = .ok (.if_icmp .ne 7, 3) := by decide +kernel
theorem dX9_priceBy_93 : decode cX9_priceBy 93 = .ok (.iconst 1, 1) := by decide +kernel
theorem dX9_priceBy_94 : decode cX9_priceBy 94 = .ok (.goto 4, 3) := by decide +kernel
theorem dX9_priceBy_97 : decode cX9_priceBy 97 = .ok (.iconst 0, 1) := by decide +kernel
theorem dX9_priceBy_98 : decode cX9_priceBy 98 = .ok (.iastore, 1) := by decide +kernel
theorem dX9_priceBy_99 : decode cX9_priceBy 99 = .ok (.aload_n 0, 1) := by decide +kernel
theorem dX9_priceBy_100 : decode cX9_priceBy 100 = .ok (.getfield 23, 3) := by decide +kernel
theorem dX9_priceBy_103 : decode cX9_priceBy 103 = .ok (.aload_n 0, 1) := by decide +kernel
theorem dX9_priceBy_104 : decode cX9_priceBy 104 = .ok (.getfield 64, 3) := by decide +kernel
theorem dX9_priceBy_107 : decode cX9_priceBy 107 = .ok (.getfield 173, 3) := by decide +kernel
theorem dX9_priceBy_110 : decode cX9_priceBy 110 = .ok (.aaload, 1) := by decide +kernel
theorem dX9_priceBy_111 : decode cX9_priceBy 111 = .ok (.astore 6, 2) := by decide +kernel
theorem dX9_priceBy_113 : decode cX9_priceBy 113 = .ok (.aload_n 0, 1) := by decide +kernel
theorem dX9_priceBy_114 : decode cX9_priceBy 114 = .ok (.getfield 43, 3) := by decide +kernel
theorem dX9_priceBy_117 : decode cX9_priceBy 117 = .ok (.aload 6, 2) := by decide +kernel
theorem dX9_priceBy_119 : decode cX9_priceBy 119 = .ok (.getfield 225, 3) := by decide +kernel
theorem dX9_priceBy_122 : decode cX9_priceBy 122 = .ok (.iconst 0, 1) := by decide +kernel
theorem dX9_priceBy_123 : decode cX9_priceBy 123 = .ok (.aload 6, 2) := by decide +kernel
theorem dX9_priceBy_125 : decode cX9_priceBy 125 = .ok (.getfield 228, 3) := by decide +kernel
theorem dX9_priceBy_128 : decode cX9_priceBy 128 = .ok (.invokevirtual 231, 3) := by decide +kernel
theorem dX9_priceBy_131 : decode cX9_priceBy 131 = .ok (.ifCond .ne 6, 3) := by decide +kernel
theorem dX9_priceBy_134 : decode cX9_priceBy 134 = .ok (.bipush (-5), 2) := by decide +kernel
theorem dX9_priceBy_136 : decode cX9_priceBy 136 = .ok (.ireturn, 1) := by decide +kernel
theorem dX9_priceBy_137 : decode cX9_priceBy 137 = .ok (.aload_n 0, 1) := by decide +kernel
theorem dX9_priceBy_138 : decode cX9_priceBy 138 = .ok (.getfield 43, 3) := by decide +kernel
theorem dX9_priceBy_141 : decode cX9_priceBy 141 = .ok (.aload 6, 2) := by decide +kernel
theorem dX9_priceBy_143 : decode cX9_priceBy 143 = .ok (.getfield 225, 3) := by decide +kernel
theorem dX9_priceBy_146 : decode cX9_priceBy 146 = .ok (.aload 6, 2) := by decide +kernel
theorem dX9_priceBy_148 : decode cX9_priceBy 148 = .ok (.getfield 228, 3) := by decide +kernel
theorem dX9_priceBy_151 : decode cX9_priceBy 151 = .ok (.aload 6, 2) := by decide +kernel
theorem dX9_priceBy_153 : decode cX9_priceBy 153 = .ok (.getfield 234, 3) := by decide +kernel
theorem dX9_priceBy_156 : decode cX9_priceBy 156 = .ok (.invokevirtual 231, 3) := by decide +kernel
theorem dX9_priceBy_159 : decode cX9_priceBy 159 = .ok (.istore 7, 2) := by decide +kernel
theorem dX9_priceBy_161 : decode cX9_priceBy 161 = .ok (.aload_n 0, 1) := by decide +kernel
theorem dX9_priceBy_162 : decode cX9_priceBy 162 = .ok (.getfield 11, 3) := by decide +kernel
theorem dX9_priceBy_165 : decode cX9_priceBy 165 = .ok (.iload_n 1, 1) := by decide +kernel
theorem dX9_priceBy_166 : decode cX9_priceBy 166 = .ok (.aaload, 1) := by decide +kernel
theorem dX9_priceBy_167 : decode cX9_priceBy 167 = .ok (.iload 5, 2) := by decide +kernel
theorem dX9_priceBy_169 : decode cX9_priceBy 169 = .ok (.iload 4, 2) := by decide +kernel
theorem dX9_priceBy_171 : decode cX9_priceBy 171 = .ok (.invokevirtual 163, 3) := by decide +kernel
theorem dX9_priceBy_174 : decode cX9_priceBy 174 = .ok (.iload 7, 2) := by decide +kernel
theorem dX9_priceBy_176 : decode cX9_priceBy 176 = .ok (.invokestatic 237, 3) := by decide +kernel
theorem dX9_priceBy_179 : decode cX9_priceBy 179 = .ok (.iadd, 1) := by decide +kernel
theorem dX9_priceBy_180 : decode cX9_priceBy 180 = .ok (.ireturn, 1) := by decide +kernel
theorem dX9_costBy_0 : decode cX9_costBy 0 = .ok (.aload_n 0, 1) := by decide +kernel
theorem dX9_costBy_1 : decode cX9_costBy 1 = .ok (.iload_n 1, 1) := by decide +kernel
theorem dX9_costBy_2 : decode cX9_costBy 2 = .ok (.iload_n 2, 1) := by decide +kernel
theorem dX9_costBy_3 : decode cX9_costBy 3 = .ok (.iload_n 3, 1) := by decide +kernel
theorem dX9_costBy_4 : decode cX9_costBy 4 = .ok (.invokevirtual 195, 3) := by decide +kernel
theorem dX9_costBy_7 : decode cX9_costBy 7 = .ok (.istore 4, 2) := by decide +kernel
theorem dX9_costBy_9 : decode cX9_costBy 9 = .ok (.iload 4, 2) := by decide +kernel
theorem dX9_costBy_11 : decode cX9_costBy 11 = .ok (.ifCond .lt 14, 3) := by decide +kernel
theorem dX9_costBy_14 : decode cX9_costBy 14 = .ok (.aload_n 0, 1) := by decide +kernel
theorem dX9_costBy_15 : decode cX9_costBy 15 = .ok (.getfield 43, 3) := by decide +kernel
theorem dX9_costBy_18 : decode cX9_costBy 18 = .ok (.getfield 222, 3) := by decide +kernel
theorem dX9_costBy_21 : decode cX9_costBy 21 = .ok (.iload_n 1, 1) := by decide +kernel
theorem dX9_costBy_22 : decode cX9_costBy 22 = .ok (.if_icmp .ne 8, 3) := by decide +kernel
theorem dX9_costBy_25 : decode cX9_costBy 25 = .ok (.iload 4, 2) := by decide +kernel
theorem dX9_costBy_27 : decode cX9_costBy 27 = .ok (.goto 16, 3) := by decide +kernel
theorem dX9_costBy_30 : decode cX9_costBy 30 = .ok (.iload 4, 2) := by decide +kernel
theorem dX9_costBy_32 : decode cX9_costBy 32 = .ok (.aload_n 0, 1) := by decide +kernel
theorem dX9_costBy_33 : decode cX9_costBy 33 = .ok (.getfield 11, 3) := by decide +kernel
theorem dX9_costBy_36 : decode cX9_costBy 36 = .ok (.iload_n 1, 1) := by decide +kernel
theorem dX9_costBy_37 : decode cX9_costBy 37 = .ok (.aaload, 1) := by decide +kernel
theorem dX9_costBy_38 : decode cX9_costBy 38 = .ok (.iload_n 2, 1) := by decide +kernel
theorem dX9_costBy_39 : decode cX9_costBy 39 = .ok (.invokevirtual 166, 3) := by decide +kernel
theorem dX9_costBy_42 : decode cX9_costBy 42 = .ok (.iadd, 1) := by decide +kernel
theorem dX9_costBy_43 : decode cX9_costBy 43 = .ok (.ireturn, 1) := by decide +kernel
theorem dX9_leastCost_0 : decode cX9_leastCost 0 = .ok (.bipush (-5), 2) := by decide +kernel
theorem dX9_leastCost_2 : decode cX9_leastCost 2 = .ok (.istore_n 2, 1) := by decide +kernel
theorem dX9_leastCost_3 : decode cX9_leastCost 3 = .ok (.iconst 0, 1) := by decide +kernel
theorem dX9_leastCost_4 : decode cX9_leastCost 4 = .ok (.istore_n 3, 1) := by decide +kernel
theorem dX9_leastCost_5 : decode cX9_leastCost 5 = .ok (.iload_n 3, 1) := by decide +kernel
theorem dX9_leastCost_6 : decode cX9_leastCost 6 = .ok (.aload_n 0, 1) := by decide +kernel
theorem dX9_leastCost_7 : decode cX9_leastCost 7 = .ok (.getfield 106, 3) := by decide +kernel
theorem dX9_leastCost_10 : decode cX9_leastCost 10 = .ok (.if_icmp .ge 44, 3) := by decide +kernel
theorem dX9_leastCost_13 : decode cX9_leastCost 13 = .ok (.aload_n 0, 1) := by decide +kernel
theorem dX9_leastCost_14 : decode cX9_leastCost 14 = .ok (.iload_n 3, 1) := by decide +kernel
theorem dX9_leastCost_15 : decode cX9_leastCost 15 = .ok (.aload_n 0, 1) := by decide +kernel
theorem dX9_leastCost_16 : decode cX9_leastCost 16 = .ok (.getfield 64, 3) := by decide +kernel
theorem dX9_leastCost_19 : decode cX9_leastCost 19 = .ok (.getfield 122, 3) := by decide +kernel
theorem dX9_leastCost_22 : decode cX9_leastCost 22 = .ok (.iload_n 3, 1) := by decide +kernel
theorem dX9_leastCost_23 : decode cX9_leastCost 23 = .ok (.iaload, 1) := by decide +kernel
theorem dX9_leastCost_24 : decode cX9_leastCost 24 = .ok (.iload_n 1, 1) := by decide +kernel
theorem dX9_leastCost_25 : decode cX9_leastCost 25 = .ok (.invokevirtual 183, 3) := by decide +kernel
theorem dX9_leastCost_28 : decode cX9_leastCost 28 = .ok (.istore 4, 2) := by decide +kernel
theorem dX9_leastCost_30 : decode cX9_leastCost 30 = .ok (.iload 4, 2) := by decide +kernel
theorem dX9_leastCost_32 : decode cX9_leastCost 32 = .ok (.ifCond .lt 16, 3) := by decide +kernel
theorem dX9_leastCost_35 : decode cX9_leastCost 35 = .ok (.iload_n 2, 1) := by decide +kernel
theorem dX9_leastCost_36 : decode cX9_leastCost 36 = .ok (.ifCond .lt 9, 3) := by decide +kernel
theorem dX9_leastCost_39 : decode cX9_leastCost 39 = .ok (.iload 4, 2) := by decide +kernel
theorem dX9_leastCost_41 : decode cX9_leastCost 41 = .ok (.iload_n 2, 1) := by decide +kernel
theorem dX9_leastCost_42 : decode cX9_leastCost 42 = .ok (.if_icmp .ge 6, 3) := by decide +kernel
theorem dX9_leastCost_45 : decode cX9_leastCost 45 = .ok (.iload 4, 2) := by decide +kernel
theorem dX9_leastCost_47 : decode cX9_leastCost 47 = .ok (.istore_n 2, 1) := by decide +kernel
theorem dX9_leastCost_48 : decode cX9_leastCost 48 = .ok (.iinc 3 1, 3) := by decide +kernel
theorem dX9_leastCost_51 : decode cX9_leastCost 51 = .ok (.goto (-46), 3) := by decide +kernel
theorem dX9_leastCost_54 : decode cX9_leastCost 54 = .ok (.iload_n 2, 1) := by decide +kernel
theorem dX9_leastCost_55 : decode cX9_leastCost 55 = .ok (.ireturn, 1) := by decide +kernel
theorem dX9_firstBuyerFor_0 : decode cX9_firstBuyerFor 0 = .ok (.iconst 0, 1) := by decide +kernel
theorem dX9_firstBuyerFor_1 : decode cX9_firstBuyerFor 1 = .ok (.istore_n 3, 1) := by decide +kernel
theorem dX9_firstBuyerFor_2 : decode cX9_firstBuyerFor 2 = .ok (.iload_n 3, 1) := by decide +kernel
theorem dX9_firstBuyerFor_3 : decode cX9_firstBuyerFor 3 = .ok (.aload_n 0, 1) := by decide +kernel
theorem dX9_firstBuyerFor_4 : decode cX9_firstBuyerFor 4 = .ok (.getfield 106, 3) := by decide +kernel
theorem dX9_firstBuyerFor_7 : decode cX9_firstBuyerFor 7 = .ok (.if_icmp .ge 30, 3) := by decide +kernel
theorem dX9_firstBuyerFor_10 : decode cX9_firstBuyerFor 10 = .ok (.aload_n 0, 1) := by decide +kernel
theorem dX9_firstBuyerFor_11 : decode cX9_firstBuyerFor 11 = .ok (.iload_n 3, 1) := by decide +kernel
theorem dX9_firstBuyerFor_12 : decode cX9_firstBuyerFor 12 = .ok (.aload_n 0, 1) := by decide +kernel
theorem dX9_firstBuyerFor_13 : decode cX9_firstBuyerFor 13 = .ok (.getfield 64, 3) := by decide +kernel
theorem dX9_firstBuyerFor_16 : decode cX9_firstBuyerFor 16 = .ok (.getfield 122, 3) := by decide +kernel
theorem dX9_firstBuyerFor_19 : decode cX9_firstBuyerFor 19 = .ok (.iload_n 3, 1) := by decide +kernel
theorem dX9_firstBuyerFor_20 : decode cX9_firstBuyerFor 20 = .ok (.iaload, 1) := by decide +kernel
theorem dX9_firstBuyerFor_21 : decode cX9_firstBuyerFor 21 = .ok (.iload_n 2, 1) := by decide +kernel
theorem dX9_firstBuyerFor_22 : decode cX9_firstBuyerFor 22 = .ok (.invokevirtual 183, 3) := by decide +kernel
theorem dX9_firstBuyerFor_25 : decode cX9_firstBuyerFor 25 = .ok (.iload_n 1, 1) := by decide +kernel
theorem dX9_firstBuyerFor_26 : decode cX9_firstBuyerFor 26 = .ok (.if_icmp .ne 5, 3) := by decide +kernel
theorem dX9_firstBuyerFor_29 : decode cX9_firstBuyerFor 29 = .ok (.iload_n 3, 1) := by decide +kernel
theorem dX9_firstBuyerFor_30 : decode cX9_firstBuyerFor 30 = .ok (.ireturn, 1) := by decide +kernel
theorem dX9_firstBuyerFor_31 : decode cX9_firstBuyerFor 31 = .ok (.iinc 3 1, 3) := by decide +kernel
theorem dX9_firstBuyerFor_34 : decode cX9_firstBuyerFor 34 = .ok (.goto (-32), 3) := by decide +kernel
theorem dX9_firstBuyerFor_37 : decode cX9_firstBuyerFor 37 = .ok (.iconst (-1), 1) := by decide +kernel
theorem dX9_firstBuyerFor_38 : decode cX9_firstBuyerFor 38 = .ok (.ireturn, 1) := by decide +kernel
theorem dX9_held_0 : decode cX9_held 0 = .ok (.iconst 0, 1) := by decide +kernel
theorem dX9_held_1 : decode cX9_held 1 = .ok (.sipush 999, 3) := by decide +kernel
theorem dX9_held_4 : decode cX9_held 4 = .ok (.iload_n 0, 1) := by decide +kernel
theorem dX9_held_5 : decode cX9_held 5 = .ok (.invokestatic 204, 3) := by decide +kernel
theorem dX9_held_8 : decode cX9_held 8 = .ok (.invokestatic 240, 3) := by decide +kernel
theorem dX9_held_11 : decode cX9_held 11 = .ok (.ireturn, 1) := by decide +kernel
theorem dX9_all_0 : decode cX9_all 0 = .ok (.iload_n 1, 1) := by decide +kernel
theorem dX9_all_1 : decode cX9_all 1 = .ok (.iconst 1, 1) := by decide +kernel
theorem dX9_all_2 : decode cX9_all 2 = .ok (.invokestatic 102, 3) := by decide +kernel
theorem dX9_all_5 : decode cX9_all 5 = .ok (.ifCond .ne 6, 3) := by decide +kernel
theorem dX9_all_8 : decode cX9_all 8 = .ok (.bipush (-2), 2) := by decide +kernel
theorem dX9_all_10 : decode cX9_all 10 = .ok (.ireturn, 1) := by decide +kernel
theorem dX9_all_11 : decode cX9_all 11 = .ok (.aload_n 0, 1) := by decide +kernel
theorem dX9_all_12 : decode cX9_all 12 = .ok (.invokevirtual 243, 3) := by decide +kernel
theorem dX9_all_15 : decode cX9_all 15 = .ok (.aload_n 0, 1) := by decide +kernel
theorem dX9_all_16 : decode cX9_all 16 = .ok (.invokevirtual 216, 3) := by decide +kernel
theorem dX9_all_19 : decode cX9_all 19 = .ok (.istore_n 2, 1) := by decide +kernel
theorem dX9_all_20 : decode cX9_all 20 = .ok (.aload_n 0, 1) := by decide +kernel
theorem dX9_all_21 : decode cX9_all 21 = .ok (.getfield 50, 3) := by decide +kernel
theorem dX9_all_24 : decode cX9_all 24 = .ok (.getfield 246, 3) := by decide +kernel
theorem dX9_all_27 : decode cX9_all 27 = .ok (.iload_n 2, 1) := by decide +kernel
theorem dX9_all_28 : decode cX9_all 28 = .ok (.iaload, 1) := by decide +kernel
theorem dX9_all_29 : decode cX9_all 29 = .ok (.ifCond .ge 5, 3) := by decide +kernel
theorem dX9_all_32 : decode cX9_all 32 = .ok (.iconst (-1), 1) := by decide +kernel
theorem dX9_all_33 : decode cX9_all 33 = .ok (.ireturn, 1) := by decide +kernel
theorem dX9_all_34 : decode cX9_all 34 = .ok (.iload_n 1, 1) := by decide +kernel
theorem dX9_all_35 : decode cX9_all 35 = .ok (.ifCond .ne 15, 3) := by decide +kernel
theorem dX9_all_38 : decode cX9_all 38 = .ok (.aload_n 0, 1) := by decide +kernel
theorem dX9_all_39 : decode cX9_all 39 = .ok (.getfield 50, 3) := by decide +kernel
theorem dX9_all_42 : decode cX9_all 42 = .ok (.getfield 246, 3) := by decide +kernel
theorem dX9_all_45 : decode cX9_all 45 = .ok (.iload_n 2, 1) := by decide +kernel
theorem dX9_all_46 : decode cX9_all 46 = .ok (.iaload, 1) := by decide +kernel
theorem dX9_all_47 : decode cX9_all 47 = .ok (.goto 12, 3) := by decide +kernel
theorem dX9_all_50 : decode cX9_all 50 = .ok (.aload_n 0, 1) := by decide +kernel
theorem dX9_all_51 : decode cX9_all 51 = .ok (.getfield 50, 3) := by decide +kernel
theorem dX9_all_54 : decode cX9_all 54 = .ok (.getfield 249, 3) := by decide +kernel
theorem dX9_all_57 : decode cX9_all 57 = .ok (.iload_n 2, 1) := by decide +kernel
theorem dX9_all_58 : decode cX9_all 58 = .ok (.iaload, 1) := by decide +kernel
theorem dX9_all_59 : decode cX9_all 59 = .ok (.ireturn, 1) := by decide +kernel
theorem dX9_heap_0 : decode cX9_heap 0 = .ok (.aload_n 0, 1) := by decide +kernel
theorem dX9_heap_1 : decode cX9_heap 1 = .ok (.iload_n 1, 1) := by decide +kernel
theorem dX9_heap_2 : decode cX9_heap 2 = .ok (.invokevirtual 147, 3) := by decide +kernel
theorem dX9_heap_5 : decode cX9_heap 5 = .ok (.ifCond .ne 6, 3) := by decide +kernel
theorem dX9_heap_8 : decode cX9_heap 8 = .ok (.bipush (-2), 2) := by decide +kernel
theorem dX9_heap_10 : decode cX9_heap 10 = .ok (.ireturn, 1) := by decide +kernel
theorem dX9_heap_11 : decode cX9_heap 11 = .ok (.aload_n 0, 1) := by decide +kernel
theorem dX9_heap_12 : decode cX9_heap 12 = .ok (.getfield 64, 3) := by decide +kernel
theorem dX9_heap_15 : decode cX9_heap 15 = .ok (.getfield 169, 3) := by decide +kernel
theorem dX9_heap_18 : decode cX9_heap 18 = .ok (.iload_n 1, 1) := by decide +kernel
theorem dX9_heap_19 : decode cX9_heap 19 = .ok (.invokestatic 209, 3) := by decide +kernel
theorem dX9_heap_22 : decode cX9_heap 22 = .ok (.ifCond .eq 6, 3) := by decide +kernel
theorem dX9_heap_25 : decode cX9_heap 25 = .ok (.bipush (-3), 2) := by decide +kernel
theorem dX9_heap_27 : decode cX9_heap 27 = .ok (.ireturn, 1) := by decide +kernel
theorem dX9_heap_28 : decode cX9_heap 28 = .ok (.aload_n 0, 1) := by decide +kernel
theorem dX9_heap_29 : decode cX9_heap 29 = .ok (.invokevirtual 243, 3) := by decide +kernel
theorem dX9_heap_32 : decode cX9_heap 32 = .ok (.aload_n 0, 1) := by decide +kernel
theorem dX9_heap_33 : decode cX9_heap 33 = .ok (.getfield 50, 3) := by decide +kernel
theorem dX9_heap_36 : decode cX9_heap 36 = .ok (.iload_n 1, 1) := by decide +kernel
theorem dX9_heap_37 : decode cX9_heap 37 = .ok (.aload_n 0, 1) := by decide +kernel
theorem dX9_heap_38 : decode cX9_heap 38 = .ok (.invokevirtual 216, 3) := by decide +kernel
theorem dX9_heap_41 : decode cX9_heap 41 = .ok (.invokevirtual 252, 3) := by decide +kernel
theorem dX9_heap_44 : decode cX9_heap 44 = .ok (.ireturn, 1) := by decide +kernel
theorem dX9_planAll_0 : decode cX9_planAll 0 = .ok (.aload_n 0, 1) := by decide +kernel
theorem dX9_planAll_1 : decode cX9_planAll 1 = .ok (.invokevirtual 216, 3) := by decide +kernel
theorem dX9_planAll_4 : decode cX9_planAll 4 = .ok (.istore_n 1, 1) := by decide +kernel
theorem dX9_planAll_5 : decode cX9_planAll 5 = .ok (.iconst 1, 1) := by decide +kernel
theorem dX9_planAll_6 : decode cX9_planAll 6 = .ok (.istore_n 2, 1) := by decide +kernel
theorem dX9_planAll_7 : decode cX9_planAll 7 = .ok (.iload_n 2, 1) := by decide +kernel
theorem dX9_planAll_8 : decode cX9_planAll 8 = .ok (.iload_n 1, 1) := by decide +kernel
theorem dX9_planAll_9 : decode cX9_planAll 9 = .ok (.if_icmp .gt 52, 3) := by decide +kernel
theorem dX9_planAll_12 : decode cX9_planAll 12 = .ok (.iload_n 2, 1) := by decide +kernel
theorem dX9_planAll_13 : decode cX9_planAll 13 = .ok (.iload_n 1, 1) := by decide +kernel
theorem dX9_planAll_14 : decode cX9_planAll 14 = .ok (.iconst (-1), 1) := by decide +kernel
theorem dX9_planAll_15 : decode cX9_planAll 15 = .ok (.ixor, 1) := by decide +kernel
theorem dX9_planAll_16 : decode cX9_planAll 16 = .ok (.iand, 1) := by decide +kernel
theorem dX9_planAll_17 : decode cX9_planAll 17 = .ok (.ifCond .ne 38, 3) := by decide +kernel
theorem dX9_planAll_20 : decode cX9_planAll 20 = .ok (.aload_n 0, 1) := by decide +kernel
theorem dX9_planAll_21 : decode cX9_planAll 21 = .ok (.getfield 50, 3) := by decide +kernel
theorem dX9_planAll_24 : decode cX9_planAll 24 = .ok (.getfield 255, 3) := by decide +kernel
theorem dX9_planAll_27 : decode cX9_planAll 27 = .ok (.iload_n 2, 1) := by decide +kernel
theorem dX9_planAll_28 : decode cX9_planAll 28 = .ok (.aload_n 0, 1) := by decide +kernel
theorem dX9_planAll_29 : decode cX9_planAll 29 = .ok (.iload_n 2, 1) := by decide +kernel
theorem dX9_planAll_30 : decode cX9_planAll 30 = .ok (.invokevirtual 180, 3) := by decide +kernel
theorem dX9_planAll_33 : decode cX9_planAll 33 = .ok (.ifCond .eq 11, 3) := by decide +kernel
theorem dX9_planAll_36 : decode cX9_planAll 36 = .ok (.aload_n 0, 1) := by decide +kernel
theorem dX9_planAll_37 : decode cX9_planAll 37 = .ok (.iconst 0, 1) := by decide +kernel
theorem dX9_planAll_38 : decode cX9_planAll 38 = .ok (.invokevirtual 186, 3) := by decide +kernel
theorem dX9_planAll_41 : decode cX9_planAll 41 = .ok (.goto 5, 3) := by decide +kernel
theorem dX9_planAll_44 : decode cX9_planAll 44 = .ok (.bipush (-5), 2) := by decide +kernel
theorem dX9_planAll_46 : decode cX9_planAll 46 = .ok (.iastore, 1) := by decide +kernel
theorem dX9_planAll_47 : decode cX9_planAll 47 = .ok (.aload_n 0, 1) := by decide +kernel
theorem dX9_planAll_48 : decode cX9_planAll 48 = .ok (.getfield 50, 3) := by decide +kernel
theorem dX9_planAll_51 : decode cX9_planAll 51 = .ok (.iload_n 2, 1) := by decide +kernel
theorem dX9_planAll_52 : decode cX9_planAll 52 = .ok (.invokevirtual 258, 3) := by decide +kernel
theorem dX9_planAll_55 : decode cX9_planAll 55 = .ok (.iinc 2 1, 3) := by decide +kernel
theorem dX9_planAll_58 : decode cX9_planAll 58 = .ok (.goto (-51), 3) := by decide +kernel
theorem dX9_planAll_61 : decode cX9_planAll 61 = .ok (.return_, 1) := by decide +kernel
theorem dX9_eachOne_0 : decode cX9_eachOne 0 = .ok (.aload_n 0, 1) := by decide +kernel
theorem dX9_eachOne_1 : decode cX9_eachOne 1 = .ok (.invokevirtual 262, 3) := by decide +kernel
theorem dX9_eachOne_4 : decode cX9_eachOne 4 = .ok (.aload_n 0, 1) := by decide +kernel
theorem dX9_eachOne_5 : decode cX9_eachOne 5 = .ok (.invokevirtual 216, 3) := by decide +kernel
theorem dX9_eachOne_8 : decode cX9_eachOne 8 = .ok (.istore_n 1, 1) := by decide +kernel
theorem dX9_eachOne_9 : decode cX9_eachOne 9 = .ok (.iload_n 1, 1) := by decide +kernel
theorem dX9_eachOne_10 : decode cX9_eachOne 10 = .ok (.invokestatic 265, 3) := by decide +kernel
theorem dX9_eachOne_13 : decode cX9_eachOne 13 = .ok (.istore_n 2, 1) := by decide +kernel
theorem dX9_eachOne_14 : decode cX9_eachOne 14 = .ok (.iconst (-1), 1) := by decide +kernel
theorem dX9_eachOne_15 : decode cX9_eachOne 15 = .ok (.istore_n 3, 1) := by decide +kernel
theorem dX9_eachOne_16 : decode cX9_eachOne 16 = .ok (.iconst 0, 1) := by decide +kernel
theorem dX9_eachOne_17 : decode cX9_eachOne 17 = .ok (.istore 4, 2) := by decide +kernel
theorem dX9_eachOne_19 : decode cX9_eachOne 19 = .ok (.iload 4, 2) := by decide +kernel
theorem dX9_eachOne_21 : decode cX9_eachOne 21 = .ok (.iconst 1, 1) := by decide +kernel
theorem dX9_eachOne_22 : decode cX9_eachOne 22 = .ok (.aload_n 0, 1) := by decide +kernel
theorem dX9_eachOne_23 : decode cX9_eachOne 23 = .ok (.getfield 106, 3) := by decide +kernel
theorem dX9_eachOne_26 : decode cX9_eachOne 26 = .ok (.ishl, 1) := by decide +kernel
theorem dX9_eachOne_27 : decode cX9_eachOne 27 = .ok (.if_icmp .ge 58, 3) := by decide +kernel
theorem dX9_eachOne_30 : decode cX9_eachOne 30 = .ok (.aload_n 0, 1) := by decide +kernel
theorem dX9_eachOne_31 : decode cX9_eachOne 31 = .ok (.iload 4, 2) := by decide +kernel
theorem dX9_eachOne_33 : decode cX9_eachOne 33 = .ok (.iload_n 1, 1) := by decide +kernel
theorem dX9_eachOne_34 : decode cX9_eachOne 34 = .ok (.iload_n 2, 1) := by decide +kernel
theorem dX9_eachOne_35 : decode cX9_eachOne 35 = .ok (.invokevirtual 270, 3) := by decide +kernel
theorem dX9_eachOne_38 : decode cX9_eachOne 38 = .ok (.istore 5, 2) := by decide +kernel
theorem dX9_eachOne_40 : decode cX9_eachOne 40 = .ok (.aload_n 0, 1) := by decide +kernel
theorem dX9_eachOne_41 : decode cX9_eachOne 41 = .ok (.getfield 50, 3) := by decide +kernel
theorem dX9_eachOne_44 : decode cX9_eachOne 44 = .ok (.getfield 273, 3) := by decide +kernel
theorem dX9_eachOne_47 : decode cX9_eachOne 47 = .ok (.iload 4, 2) := by decide +kernel
theorem dX9_eachOne_49 : decode cX9_eachOne 49 = .ok (.iload 5, 2) := by decide +kernel
theorem dX9_eachOne_51 : decode cX9_eachOne 51 = .ok (.iastore, 1) := by decide +kernel
theorem dX9_eachOne_52 : decode cX9_eachOne 52 = .ok (.iload 5, 2) := by decide +kernel
theorem dX9_eachOne_54 : decode cX9_eachOne 54 = .ok (.ifCond .lt 25, 3) := by decide +kernel
theorem dX9_eachOne_57 : decode cX9_eachOne 57 = .ok (.iload 4, 2) := by decide +kernel
theorem dX9_eachOne_59 : decode cX9_eachOne 59 = .ok (.invokestatic 265, 3) := by decide +kernel
theorem dX9_eachOne_62 : decode cX9_eachOne 62 = .ok (.iload_n 2, 1) := by decide +kernel
theorem dX9_eachOne_63 : decode cX9_eachOne 63 = .ok (.if_icmp .ne 16, 3) := by decide +kernel
theorem dX9_eachOne_66 : decode cX9_eachOne 66 = .ok (.iload_n 3, 1) := by decide +kernel
theorem dX9_eachOne_67 : decode cX9_eachOne 67 = .ok (.ifCond .lt 9, 3) := by decide +kernel
theorem dX9_eachOne_70 : decode cX9_eachOne 70 = .ok (.iload 5, 2) := by decide +kernel
theorem dX9_eachOne_72 : decode cX9_eachOne 72 = .ok (.iload_n 3, 1) := by decide +kernel
theorem dX9_eachOne_73 : decode cX9_eachOne 73 = .ok (.if_icmp .ge 6, 3) := by decide +kernel
theorem dX9_eachOne_76 : decode cX9_eachOne 76 = .ok (.iload 5, 2) := by decide +kernel
theorem dX9_eachOne_78 : decode cX9_eachOne 78 = .ok (.istore_n 3, 1) := by decide +kernel
theorem dX9_eachOne_79 : decode cX9_eachOne 79 = .ok (.iinc 4 1, 3) := by decide +kernel
theorem dX9_eachOne_82 : decode cX9_eachOne 82 = .ok (.goto (-63), 3) := by decide +kernel
theorem dX9_eachOne_85 : decode cX9_eachOne 85 = .ok (.iload_n 3, 1) := by decide +kernel
theorem dX9_eachOne_86 : decode cX9_eachOne 86 = .ok (.ireturn, 1) := by decide +kernel
theorem dX9_crewCost_0 : decode cX9_crewCost 0 = .ok (.iload_n 1, 1) := by decide +kernel
theorem dX9_crewCost_1 : decode cX9_crewCost 1 = .ok (.invokestatic 265, 3) := by decide +kernel
theorem dX9_crewCost_4 : decode cX9_crewCost 4 = .ok (.istore 4, 2) := by decide +kernel
theorem dX9_crewCost_6 : decode cX9_crewCost 6 = .ok (.iload 4, 2) := by decide +kernel
theorem dX9_crewCost_8 : decode cX9_crewCost 8 = .ok (.ifCond .ne 5, 3) := by decide +kernel
theorem dX9_crewCost_11 : decode cX9_crewCost 11 = .ok (.iconst 0, 1) := by decide +kernel
theorem dX9_crewCost_12 : decode cX9_crewCost 12 = .ok (.ireturn, 1) := by decide +kernel
theorem dX9_crewCost_13 : decode cX9_crewCost 13 = .ok (.iload 4, 2) := by decide +kernel
theorem dX9_crewCost_15 : decode cX9_crewCost 15 = .ok (.iload_n 3, 1) := by decide +kernel
theorem dX9_crewCost_16 : decode cX9_crewCost 16 = .ok (.if_icmp .le 7, 3) := by decide +kernel
theorem dX9_crewCost_19 : decode cX9_crewCost 19 = .ok (.iconst (-1), 1) := by decide +kernel
theorem dX9_crewCost_20 : decode cX9_crewCost 20 = .ok (.goto 10, 3) := by decide +kernel
theorem dX9_crewCost_23 : decode cX9_crewCost 23 = .ok (.aload_n 0, 1) := by decide +kernel
theorem dX9_crewCost_24 : decode cX9_crewCost 24 = .ok (.iload_n 2, 1) := by decide +kernel
theorem dX9_crewCost_25 : decode cX9_crewCost 25 = .ok (.iload 4, 2) := by decide +kernel
theorem dX9_crewCost_27 : decode cX9_crewCost 27 = .ok (.invokevirtual 276, 3) := by decide +kernel
theorem dX9_crewCost_30 : decode cX9_crewCost 30 = .ok (.istore 5, 2) := by decide +kernel
theorem dX9_crewCost_32 : decode cX9_crewCost 32 = .ok (.bipush (-5), 2) := by decide +kernel
theorem dX9_crewCost_34 : decode cX9_crewCost 34 = .ok (.istore 6, 2) := by decide +kernel
theorem dX9_crewCost_36 : decode cX9_crewCost 36 = .ok (.iconst 0, 1) := by decide +kernel
theorem dX9_crewCost_37 : decode cX9_crewCost 37 = .ok (.istore 7, 2) := by decide +kernel
theorem dX9_crewCost_39 : decode cX9_crewCost 39 = .ok (.iload 7, 2) := by decide +kernel
theorem dX9_crewCost_41 : decode cX9_crewCost 41 = .ok (.aload_n 0, 1) := by decide +kernel
theorem dX9_crewCost_42 : decode cX9_crewCost 42 = .ok (.getfield 106, 3) := by decide +kernel
theorem dX9_crewCost_45 : decode cX9_crewCost 45 = .ok (.if_icmp .ge 92, 3) := by decide +kernel
theorem dX9_crewCost_48 : decode cX9_crewCost 48 = .ok (.iload 5, 2) := by decide +kernel
theorem dX9_crewCost_50 : decode cX9_crewCost 50 = .ok (.ifCond .lt 87, 3) := by decide +kernel
theorem dX9_crewCost_53 : decode cX9_crewCost 53 = .ok (.iload_n 1, 1) := by decide +kernel
theorem dX9_crewCost_54 : decode cX9_crewCost 54 = .ok (.iload 7, 2) := by decide +kernel
theorem dX9_crewCost_56 : decode cX9_crewCost 56 = .ok (.invokestatic 209, 3) := by decide +kernel
theorem dX9_crewCost_59 : decode cX9_crewCost 59 = .ok (.ifCond .ne 6, 3) := by decide +kernel
theorem dX9_crewCost_62 : decode cX9_crewCost 62 = .ok (.goto 69, 3) := by decide +kernel
theorem dX9_crewCost_65 : decode cX9_crewCost 65 = .ok (.aload_n 0, 1) := by decide +kernel
theorem dX9_crewCost_66 : decode cX9_crewCost 66 = .ok (.getfield 50, 3) := by decide +kernel
theorem dX9_crewCost_69 : decode cX9_crewCost 69 = .ok (.getfield 273, 3) := by decide +kernel
theorem dX9_crewCost_72 : decode cX9_crewCost 72 = .ok (.iload_n 1, 1) := by decide +kernel
theorem dX9_crewCost_73 : decode cX9_crewCost 73 = .ok (.iconst 1, 1) := by decide +kernel
theorem dX9_crewCost_74 : decode cX9_crewCost 74 = .ok (.iload 7, 2) := by decide +kernel
theorem dX9_crewCost_76 : decode cX9_crewCost 76 = .ok (.ishl, 1) := by decide +kernel
theorem dX9_crewCost_77 : decode cX9_crewCost 77 = .ok (.ixor, 1) := by decide +kernel
theorem dX9_crewCost_78 : decode cX9_crewCost 78 = .ok (.iaload, 1) := by decide +kernel
theorem dX9_crewCost_79 : decode cX9_crewCost 79 = .ok (.istore 8, 2) := by decide +kernel
theorem dX9_crewCost_81 : decode cX9_crewCost 81 = .ok (.aload_n 0, 1) := by decide +kernel
theorem dX9_crewCost_82 : decode cX9_crewCost 82 = .ok (.getfield 57, 3) := by decide +kernel
theorem dX9_crewCost_85 : decode cX9_crewCost 85 = .ok (.getfield 279, 3) := by decide +kernel
theorem dX9_crewCost_88 : decode cX9_crewCost 88 = .ok (.iload 7, 2) := by decide +kernel
theorem dX9_crewCost_90 : decode cX9_crewCost 90 = .ok (.bipush 7, 2) := by decide +kernel
theorem dX9_crewCost_92 : decode cX9_crewCost 92 = .ok (.imul, 1) := by decide +kernel
theorem dX9_crewCost_93 : decode cX9_crewCost 93 = .ok (.iload 5, 2) := by decide +kernel
theorem dX9_crewCost_95 : decode cX9_crewCost 95 = .ok (.iadd, 1) := by decide +kernel
theorem dX9_crewCost_96 : decode cX9_crewCost 96 = .ok (.iaload, 1) := by decide +kernel
theorem dX9_crewCost_97 : decode cX9_crewCost 97 = .ok (.istore 9, 2) := by decide +kernel
theorem dX9_crewCost_99 : decode cX9_crewCost 99 = .ok (.iload 8, 2) := by decide +kernel
theorem dX9_crewCost_101 : decode cX9_crewCost 101 = .ok (.ifCond .lt 30, 3) := by decide +kernel
theorem dX9_crewCost_104 : decode cX9_crewCost 104 = .ok (.iload 9, 2) := by decide +kernel
theorem dX9_crewCost_106 : decode cX9_crewCost 106 = .ok (.ifCond .lt 25, 3) := by decide +kernel
theorem dX9_crewCost_109 : decode cX9_crewCost 109 = .ok (.iload 6, 2) := by decide +kernel
theorem dX9_crewCost_111 : decode cX9_crewCost 111 = .ok (.ifCond .lt 13, 3) := by decide +kernel
theorem dX9_crewCost_114 : decode cX9_crewCost 114 = .ok (.iload 8, 2) := by decide +kernel
theorem dX9_crewCost_116 : decode cX9_crewCost 116 = .ok (.iload 9, 2) := by decide +kernel
theorem dX9_crewCost_118 : decode cX9_crewCost 118 = .ok (.iadd, 1) := by decide +kernel
theorem dX9_crewCost_119 : decode cX9_crewCost 119 = .ok (.iload 6, 2) := by decide +kernel
theorem dX9_crewCost_121 : decode cX9_crewCost 121 = .ok (.if_icmp .ge 10, 3) := by decide +kernel
theorem dX9_crewCost_124 : decode cX9_crewCost 124 = .ok (.iload 8, 2) := by decide +kernel
theorem dX9_crewCost_126 : decode cX9_crewCost 126 = .ok (.iload 9, 2) := by decide +kernel
theorem dX9_crewCost_128 : decode cX9_crewCost 128 = .ok (.iadd, 1) := by decide +kernel
theorem dX9_crewCost_129 : decode cX9_crewCost 129 = .ok (.istore 6, 2) := by decide +kernel
theorem dX9_crewCost_131 : decode cX9_crewCost 131 = .ok (.iinc 7 1, 3) := by decide +kernel
theorem dX9_crewCost_134 : decode cX9_crewCost 134 = .ok (.goto (-95), 3) := by decide +kernel
theorem dX9_crewCost_137 : decode cX9_crewCost 137 = .ok (.iload 6, 2) := by decide +kernel
theorem dX9_crewCost_139 : decode cX9_crewCost 139 = .ok (.ireturn, 1) := by decide +kernel
theorem dX9_nthOf_0 : decode cX9_nthOf 0 = .ok (.iconst 0, 1) := by decide +kernel
theorem dX9_nthOf_1 : decode cX9_nthOf 1 = .ok (.istore_n 3, 1) := by decide +kernel
theorem dX9_nthOf_2 : decode cX9_nthOf 2 = .ok (.iconst 0, 1) := by decide +kernel
theorem dX9_nthOf_3 : decode cX9_nthOf 3 = .ok (.istore 4, 2) := by decide +kernel
theorem dX9_nthOf_5 : decode cX9_nthOf 5 = .ok (.iload 4, 2) := by decide +kernel
theorem dX9_nthOf_7 : decode cX9_nthOf 7 = .ok (.aload_n 0, 1) := by decide +kernel
theorem dX9_nthOf_8 : decode cX9_nthOf 8 = .ok (.getfield 124, 3) := by decide +kernel
theorem dX9_nthOf_11 : decode cX9_nthOf 11 = .ok (.if_icmp .ge 29, 3) := by decide +kernel
theorem dX9_nthOf_14 : decode cX9_nthOf 14 = .ok (.iload_n 1, 1) := by decide +kernel
theorem dX9_nthOf_15 : decode cX9_nthOf 15 = .ok (.iload 4, 2) := by decide +kernel
theorem dX9_nthOf_17 : decode cX9_nthOf 17 = .ok (.invokestatic 209, 3) := by decide +kernel
theorem dX9_nthOf_20 : decode cX9_nthOf 20 = .ok (.ifCond .eq 6, 3) := by decide +kernel
theorem dX9_nthOf_23 : decode cX9_nthOf 23 = .ok (.iinc 3 1, 3) := by decide +kernel
theorem dX9_nthOf_26 : decode cX9_nthOf 26 = .ok (.iload_n 3, 1) := by decide +kernel
theorem dX9_nthOf_27 : decode cX9_nthOf 27 = .ok (.iload_n 2, 1) := by decide +kernel
theorem dX9_nthOf_28 : decode cX9_nthOf 28 = .ok (.if_icmp .ne 6, 3) := by decide +kernel
theorem dX9_nthOf_31 : decode cX9_nthOf 31 = .ok (.iload 4, 2) := by decide +kernel
theorem dX9_nthOf_33 : decode cX9_nthOf 33 = .ok (.ireturn, 1) := by decide +kernel
theorem dX9_nthOf_34 : decode cX9_nthOf 34 = .ok (.iinc 4 1, 3) := by decide +kernel
theorem dX9_nthOf_37 : decode cX9_nthOf 37 = .ok (.goto (-32), 3) := by decide +kernel
theorem dX9_nthOf_40 : decode cX9_nthOf 40 = .ok (.iconst (-1), 1) := by decide +kernel
theorem dX9_nthOf_41 : decode cX9_nthOf 41 = .ok (.ireturn, 1) := by decide +kernel
theorem dX9_gain_0 : decode cX9_gain 0 = .ok (.aload_n 0, 1) := by decide +kernel
theorem dX9_gain_1 : decode cX9_gain 1 = .ok (.iload_n 1, 1) := by decide +kernel
theorem dX9_gain_2 : decode cX9_gain 2 = .ok (.invokevirtual 147, 3) := by decide +kernel
theorem dX9_gain_5 : decode cX9_gain 5 = .ok (.ifCond .eq 19, 3) := by decide +kernel
theorem dX9_gain_8 : decode cX9_gain 8 = .ok (.iload_n 2, 1) := by decide +kernel
theorem dX9_gain_9 : decode cX9_gain 9 = .ok (.iconst 1, 1) := by decide +kernel
theorem dX9_gain_10 : decode cX9_gain 10 = .ok (.invokestatic 102, 3) := by decide +kernel
theorem dX9_gain_13 : decode cX9_gain 13 = .ok (.ifCond .eq 11, 3) := by decide +kernel
theorem dX9_gain_16 : decode cX9_gain 16 = .ok (.aload_n 0, 1) := by decide +kernel
theorem dX9_gain_17 : decode cX9_gain 17 = .ok (.iload_n 1, 1) := by decide +kernel
theorem dX9_gain_18 : decode cX9_gain 18 = .ok (.invokevirtual 192, 3) := by decide +kernel
theorem dX9_gain_21 : decode cX9_gain 21 = .ok (.ifCond .ne 7, 3) := by decide +kernel
theorem dX9_gain_24 : decode cX9_gain 24 = .ok (.ldc2_w 282, 3) := by decide +kernel
theorem dX9_gain_27 : decode cX9_gain 27 = .ok (.lreturn, 1) := by decide +kernel
theorem dX9_gain_28 : decode cX9_gain 28 = .ok (.iconst (-1), 1) := by decide +kernel
theorem dX9_gain_29 : decode cX9_gain 29 = .ok (.istore_n 3, 1) := by decide +kernel
theorem dX9_gain_30 : decode cX9_gain 30 = .ok (.iconst 0, 1) := by decide +kernel
theorem dX9_gain_31 : decode cX9_gain 31 = .ok (.istore 4, 2) := by decide +kernel
theorem dX9_gain_33 : decode cX9_gain 33 = .ok (.iconst 0, 1) := by decide +kernel
theorem dX9_gain_34 : decode cX9_gain 34 = .ok (.istore 5, 2) := by decide +kernel
theorem dX9_gain_36 : decode cX9_gain 36 = .ok (.iload 5, 2) := by decide +kernel
theorem dX9_gain_38 : decode cX9_gain 38 = .ok (.aload_n 0, 1) := by decide +kernel
theorem dX9_gain_39 : decode cX9_gain 39 = .ok (.getfield 106, 3) := by decide +kernel
theorem dX9_gain_42 : decode cX9_gain 42 = .ok (.if_icmp .ge 63, 3) := by decide +kernel
theorem dX9_gain_45 : decode cX9_gain 45 = .ok (.aload_n 0, 1) := by decide +kernel
theorem dX9_gain_46 : decode cX9_gain 46 = .ok (.iload 5, 2) := by decide +kernel
theorem dX9_gain_48 : decode cX9_gain 48 = .ok (.aload_n 0, 1) := by decide +kernel
theorem dX9_gain_49 : decode cX9_gain 49 = .ok (.getfield 64, 3) := by decide +kernel
theorem dX9_gain_52 : decode cX9_gain 52 = .ok (.getfield 122, 3) := by decide +kernel
theorem dX9_gain_55 : decode cX9_gain 55 = .ok (.iload 5, 2) := by decide +kernel
theorem dX9_gain_57 : decode cX9_gain 57 = .ok (.iaload, 1) := by decide +kernel
theorem dX9_gain_58 : decode cX9_gain 58 = .ok (.iconst 0, 1) := by decide +kernel
theorem dX9_gain_59 : decode cX9_gain 59 = .ok (.invokevirtual 183, 3) := by decide +kernel
theorem dX9_gain_62 : decode cX9_gain 62 = .ok (.istore 6, 2) := by decide +kernel
theorem dX9_gain_64 : decode cX9_gain 64 = .ok (.iload 6, 2) := by decide +kernel
theorem dX9_gain_66 : decode cX9_gain 66 = .ok (.ifCond .ge 6, 3) := by decide +kernel
theorem dX9_gain_69 : decode cX9_gain 69 = .ok (.goto 30, 3) := by decide +kernel
theorem dX9_gain_72 : decode cX9_gain 72 = .ok (.aload_n 0, 1) := by decide +kernel
theorem dX9_gain_73 : decode cX9_gain 73 = .ok (.invokevirtual 284, 3) := by decide +kernel
theorem dX9_gain_76 : decode cX9_gain 76 = .ok (.iload 6, 2) := by decide +kernel
theorem dX9_gain_78 : decode cX9_gain 78 = .ok (.isub, 1) := by decide +kernel
theorem dX9_gain_79 : decode cX9_gain 79 = .ok (.istore 7, 2) := by decide +kernel
theorem dX9_gain_81 : decode cX9_gain 81 = .ok (.iload_n 3, 1) := by decide +kernel
theorem dX9_gain_82 : decode cX9_gain 82 = .ok (.ifCond .lt 10, 3) := by decide +kernel
theorem dX9_gain_85 : decode cX9_gain 85 = .ok (.iload 7, 2) := by decide +kernel
theorem dX9_gain_87 : decode cX9_gain 87 = .ok (.iload 4, 2) := by decide +kernel
theorem dX9_gain_89 : decode cX9_gain 89 = .ok (.if_icmp .le 10, 3) := by decide +kernel
theorem dX9_gain_92 : decode cX9_gain 92 = .ok (.iload 5, 2) := by decide +kernel
theorem dX9_gain_94 : decode cX9_gain 94 = .ok (.istore_n 3, 1) := by decide +kernel
theorem dX9_gain_95 : decode cX9_gain 95 = .ok (.iload 7, 2) := by decide +kernel
theorem dX9_gain_97 : decode cX9_gain 97 = .ok (.istore 4, 2) := by decide +kernel
theorem dX9_gain_99 : decode cX9_gain 99 = .ok (.iinc 5 1, 3) := by decide +kernel
theorem dX9_gain_102 : decode cX9_gain 102 = .ok (.goto (-66), 3) := by decide +kernel
theorem dX9_gain_105 : decode cX9_gain 105 = .ok (.iload_n 3, 1) := by decide +kernel
theorem dX9_gain_106 : decode cX9_gain 106 = .ok (.ifCond .ge 7, 3) := by decide +kernel
theorem dX9_gain_109 : decode cX9_gain 109 = .ok (.ldc2_w 282, 3) := by decide +kernel
theorem dX9_gain_112 : decode cX9_gain 112 = .ok (.lreturn, 1) := by decide +kernel
theorem dX9_gain_113 : decode cX9_gain 113 = .ok (.iload_n 2, 1) := by decide +kernel
theorem dX9_gain_114 : decode cX9_gain 114 = .ok (.ifCond .ne 9, 3) := by decide +kernel
theorem dX9_gain_117 : decode cX9_gain 117 = .ok (.iload 4, 2) := by decide +kernel
theorem dX9_gain_119 : decode cX9_gain 119 = .ok (.i2l, 1) := by decide +kernel
theorem dX9_gain_120 : decode cX9_gain 120 = .ok (.goto 5, 3) := by decide +kernel
theorem dX9_gain_123 : decode cX9_gain 123 = .ok (.iload_n 3, 1) := by decide +kernel
theorem dX9_gain_124 : decode cX9_gain 124 = .ok (.i2l, 1) := by decide +kernel
theorem dX9_gain_125 : decode cX9_gain 125 = .ok (.lreturn, 1) := by decide +kernel
theorem dX9_gainsNow_0 : decode cX9_gainsNow 0 = .ok (.aload_n 0, 1) := by decide +kernel
theorem dX9_gainsNow_1 : decode cX9_gainsNow 1 = .ok (.getfield 23, 3) := by decide +kernel
theorem dX9_gainsNow_4 : decode cX9_gainsNow 4 = .ok (.aload_n 0, 1) := by decide +kernel
theorem dX9_gainsNow_5 : decode cX9_gainsNow 5 = .ok (.getfield 64, 3) := by decide +kernel
theorem dX9_gainsNow_8 : decode cX9_gainsNow 8 = .ok (.getfield 173, 3) := by decide +kernel
theorem dX9_gainsNow_11 : decode cX9_gainsNow 11 = .ok (.aaload, 1) := by decide +kernel
theorem dX9_gainsNow_12 : decode cX9_gainsNow 12 = .ok (.astore_n 1, 1) := by decide +kernel
theorem dX9_gainsNow_13 : decode cX9_gainsNow 13 = .ok (.aload_n 0, 1) := by decide +kernel
theorem dX9_gainsNow_14 : decode cX9_gainsNow 14 = .ok (.getfield 43, 3) := by decide +kernel
theorem dX9_gainsNow_17 : decode cX9_gainsNow 17 = .ok (.aload_n 1, 1) := by decide +kernel
theorem dX9_gainsNow_18 : decode cX9_gainsNow 18 = .ok (.getfield 225, 3) := by decide +kernel
theorem dX9_gainsNow_21 : decode cX9_gainsNow 21 = .ok (.aload_n 1, 1) := by decide +kernel
theorem dX9_gainsNow_22 : decode cX9_gainsNow 22 = .ok (.getfield 234, 3) := by decide +kernel
theorem dX9_gainsNow_25 : decode cX9_gainsNow 25 = .ok (.aload_n 1, 1) := by decide +kernel
theorem dX9_gainsNow_26 : decode cX9_gainsNow 26 = .ok (.getfield 287, 3) := by decide +kernel
theorem dX9_gainsNow_29 : decode cX9_gainsNow 29 = .ok (.invokevirtual 231, 3) := by decide +kernel
theorem dX9_gainsNow_32 : decode cX9_gainsNow 32 = .ok (.invokestatic 237, 3) := by decide +kernel
theorem dX9_gainsNow_35 : decode cX9_gainsNow 35 = .ok (.ireturn, 1) := by decide +kernel
theorem dX9_year_0 : decode cX9_year 0 = .ok (.iconst 0, 1) := by decide +kernel
theorem dX9_year_1 : decode cX9_year 1 = .ok (.istore_n 1, 1) := by decide +kernel
theorem dX9_year_2 : decode cX9_year 2 = .ok (.iconst 0, 1) := by decide +kernel
theorem dX9_year_3 : decode cX9_year 3 = .ok (.istore_n 2, 1) := by decide +kernel
theorem dX9_year_4 : decode cX9_year 4 = .ok (.iload_n 2, 1) := by decide +kernel
theorem dX9_year_5 : decode cX9_year 5 = .ok (.aload_n 0, 1) := by decide +kernel
theorem dX9_year_6 : decode cX9_year 6 = .ok (.getfield 124, 3) := by decide +kernel
theorem dX9_year_9 : decode cX9_year 9 = .ok (.if_icmp .ge 28, 3) := by decide +kernel
theorem dX9_year_12 : decode cX9_year 12 = .ok (.aload_n 0, 1) := by decide +kernel
theorem dX9_year_13 : decode cX9_year 13 = .ok (.iload_n 2, 1) := by decide +kernel
theorem dX9_year_14 : decode cX9_year 14 = .ok (.invokevirtual 192, 3) := by decide +kernel
theorem dX9_year_17 : decode cX9_year 17 = .ok (.ifCond .eq 14, 3) := by decide +kernel
theorem dX9_year_20 : decode cX9_year 20 = .ok (.iload_n 1, 1) := by decide +kernel
theorem dX9_year_21 : decode cX9_year 21 = .ok (.iconst 0, 1) := by decide +kernel
theorem dX9_year_22 : decode cX9_year 22 = .ok (.aload_n 0, 1) := by decide +kernel
theorem dX9_year_23 : decode cX9_year 23 = .ok (.invokevirtual 290, 3) := by decide +kernel
theorem dX9_year_26 : decode cX9_year 26 = .ok (.invokestatic 240, 3) := by decide +kernel
theorem dX9_year_29 : decode cX9_year 29 = .ok (.iadd, 1) := by decide +kernel
theorem dX9_year_30 : decode cX9_year 30 = .ok (.istore_n 1, 1) := by decide +kernel
theorem dX9_year_31 : decode cX9_year 31 = .ok (.iinc 2 1, 3) := by decide +kernel
theorem dX9_year_34 : decode cX9_year 34 = .ok (.goto (-30), 3) := by decide +kernel
theorem dX9_year_37 : decode cX9_year 37 = .ok (.iload_n 1, 1) := by decide +kernel
theorem dX9_year_38 : decode cX9_year 38 = .ok (.ireturn, 1) := by decide +kernel
theorem dX9_leastInYear_0 : decode cX9_leastInYear 0 = .ok (.bipush (-5), 2) := by decide +kernel
theorem dX9_leastInYear_2 : decode cX9_leastInYear 2 = .ok (.istore_n 1, 1) := by decide +kernel
theorem dX9_leastInYear_3 : decode cX9_leastInYear 3 = .ok (.iconst 0, 1) := by decide +kernel
theorem dX9_leastInYear_4 : decode cX9_leastInYear 4 = .ok (.istore_n 2, 1) := by decide +kernel
theorem dX9_leastInYear_5 : decode cX9_leastInYear 5 = .ok (.iload_n 2, 1) := by decide +kernel
theorem dX9_leastInYear_6 : decode cX9_leastInYear 6 = .ok (.bipush 52, 2) := by decide +kernel
theorem dX9_leastInYear_8 : decode cX9_leastInYear 8 = .ok (.if_icmp .ge 30, 3) := by decide +kernel
theorem dX9_leastInYear_11 : decode cX9_leastInYear 11 = .ok (.aload_n 0, 1) := by decide +kernel
theorem dX9_leastInYear_12 : decode cX9_leastInYear 12 = .ok (.iload_n 2, 1) := by decide +kernel
theorem dX9_leastInYear_13 : decode cX9_leastInYear 13 = .ok (.invokevirtual 186, 3) := by decide +kernel
theorem dX9_leastInYear_16 : decode cX9_leastInYear 16 = .ok (.istore_n 3, 1) := by decide +kernel
theorem dX9_leastInYear_17 : decode cX9_leastInYear 17 = .ok (.iload_n 3, 1) := by decide +kernel
theorem dX9_leastInYear_18 : decode cX9_leastInYear 18 = .ok (.ifCond .lt 14, 3) := by decide +kernel
theorem dX9_leastInYear_21 : decode cX9_leastInYear 21 = .ok (.iload_n 1, 1) := by decide +kernel
theorem dX9_leastInYear_22 : decode cX9_leastInYear 22 = .ok (.ifCond .lt 8, 3) := by decide +kernel
theorem dX9_leastInYear_25 : decode cX9_leastInYear 25 = .ok (.iload_n 3, 1) := by decide +kernel
theorem dX9_leastInYear_26 : decode cX9_leastInYear 26 = .ok (.iload_n 1, 1) := by decide +kernel
theorem dX9_leastInYear_27 : decode cX9_leastInYear 27 = .ok (.if_icmp .ge 5, 3) := by decide +kernel
theorem dX9_leastInYear_30 : decode cX9_leastInYear 30 = .ok (.iload_n 3, 1) := by decide +kernel
theorem dX9_leastInYear_31 : decode cX9_leastInYear 31 = .ok (.istore_n 1, 1) := by decide +kernel
theorem dX9_leastInYear_32 : decode cX9_leastInYear 32 = .ok (.iinc 2 1, 3) := by decide +kernel
theorem dX9_leastInYear_35 : decode cX9_leastInYear 35 = .ok (.goto (-30), 3) := by decide +kernel
theorem dX9_leastInYear_38 : decode cX9_leastInYear 38 = .ok (.iload_n 1, 1) := by decide +kernel
theorem dX9_leastInYear_39 : decode cX9_leastInYear 39 = .ok (.ireturn, 1) := by decide +kernel
theorem dX9_rest_0 : decode cX9_rest 0 = .ok (.aload_n 0, 1) := by decide +kernel
theorem dX9_rest_1 : decode cX9_rest 1 = .ok (.iload_n 1, 1) := by decide +kernel
theorem dX9_rest_2 : decode cX9_rest 2 = .ok (.invokevirtual 136, 3) := by decide +kernel
theorem dX9_rest_5 : decode cX9_rest 5 = .ok (.ifCond .ne 6, 3) := by decide +kernel
theorem dX9_rest_8 : decode cX9_rest 8 = .ok (.bipush (-2), 2) := by decide +kernel
theorem dX9_rest_10 : decode cX9_rest 10 = .ok (.ireturn, 1) := by decide +kernel
theorem dX9_rest_11 : decode cX9_rest 11 = .ok (.aload_n 0, 1) := by decide +kernel
theorem dX9_rest_12 : decode cX9_rest 12 = .ok (.invokevirtual 262, 3) := by decide +kernel
theorem dX9_rest_15 : decode cX9_rest 15 = .ok (.iconst 0, 1) := by decide +kernel
theorem dX9_rest_16 : decode cX9_rest 16 = .ok (.istore_n 2, 1) := by decide +kernel
theorem dX9_rest_17 : decode cX9_rest 17 = .ok (.iload_n 2, 1) := by decide +kernel
theorem dX9_rest_18 : decode cX9_rest 18 = .ok (.aload_n 0, 1) := by decide +kernel
theorem dX9_rest_19 : decode cX9_rest 19 = .ok (.getfield 106, 3) := by decide +kernel
theorem dX9_rest_22 : decode cX9_rest 22 = .ok (.if_icmp .ge 27, 3) := by decide +kernel
theorem dX9_rest_25 : decode cX9_rest 25 = .ok (.aload_n 0, 1) := by decide +kernel
theorem dX9_rest_26 : decode cX9_rest 26 = .ok (.getfield 57, 3) := by decide +kernel
theorem dX9_rest_29 : decode cX9_rest 29 = .ok (.getfield 293, 3) := by decide +kernel
theorem dX9_rest_32 : decode cX9_rest 32 = .ok (.iload_n 2, 1) := by decide +kernel
theorem dX9_rest_33 : decode cX9_rest 33 = .ok (.aload_n 0, 1) := by decide +kernel
theorem dX9_rest_34 : decode cX9_rest 34 = .ok (.getfield 64, 3) := by decide +kernel
theorem dX9_rest_37 : decode cX9_rest 37 = .ok (.getfield 122, 3) := by decide +kernel
theorem dX9_rest_40 : decode cX9_rest 40 = .ok (.iload_n 2, 1) := by decide +kernel
theorem dX9_rest_41 : decode cX9_rest 41 = .ok (.iaload, 1) := by decide +kernel
theorem dX9_rest_42 : decode cX9_rest 42 = .ok (.iastore, 1) := by decide +kernel
theorem dX9_rest_43 : decode cX9_rest 43 = .ok (.iinc 2 1, 3) := by decide +kernel
theorem dX9_rest_46 : decode cX9_rest 46 = .ok (.goto (-29), 3) := by decide +kernel
theorem dX9_rest_49 : decode cX9_rest 49 = .ok (.iconst 1, 1) := by decide +kernel
theorem dX9_rest_50 : decode cX9_rest 50 = .ok (.istore_n 2, 1) := by decide +kernel
theorem dX9_rest_51 : decode cX9_rest 51 = .ok (.iconst 0, 1) := by decide +kernel
theorem dX9_rest_52 : decode cX9_rest 52 = .ok (.istore_n 3, 1) := by decide +kernel
theorem dX9_rest_53 : decode cX9_rest 53 = .ok (.iload_n 3, 1) := by decide +kernel
theorem dX9_rest_54 : decode cX9_rest 54 = .ok (.iconst 4, 1) := by decide +kernel
theorem dX9_rest_55 : decode cX9_rest 55 = .ok (.if_icmp .ge 42, 3) := by decide +kernel
theorem dX9_rest_58 : decode cX9_rest 58 = .ok (.iload_n 2, 1) := by decide +kernel
theorem dX9_rest_59 : decode cX9_rest 59 = .ok (.ifCond .eq 38, 3) := by decide +kernel
theorem dX9_rest_62 : decode cX9_rest 62 = .ok (.iconst 0, 1) := by decide +kernel
theorem dX9_rest_63 : decode cX9_rest 63 = .ok (.istore_n 2, 1) := by decide +kernel
theorem dX9_rest_64 : decode cX9_rest 64 = .ok (.iconst 0, 1) := by decide +kernel
theorem dX9_rest_65 : decode cX9_rest 65 = .ok (.istore 4, 2) := by decide +kernel
theorem dX9_rest_67 : decode cX9_rest 67 = .ok (.iload 4, 2) := by decide +kernel
theorem dX9_rest_69 : decode cX9_rest 69 = .ok (.aload_n 0, 1) := by decide +kernel
theorem dX9_rest_70 : decode cX9_rest 70 = .ok (.getfield 106, 3) := by decide +kernel
theorem dX9_rest_73 : decode cX9_rest 73 = .ok (.if_icmp .ge 18, 3) := by decide +kernel
theorem dX9_rest_76 : decode cX9_rest 76 = .ok (.iload_n 2, 1) := by decide +kernel
theorem dX9_rest_77 : decode cX9_rest 77 = .ok (.aload_n 0, 1) := by decide +kernel
theorem dX9_rest_78 : decode cX9_rest 78 = .ok (.iload 4, 2) := by decide +kernel
theorem dX9_rest_80 : decode cX9_rest 80 = .ok (.invokevirtual 296, 3) := by decide +kernel
theorem dX9_rest_83 : decode cX9_rest 83 = .ok (.ior, 1) := by decide +kernel
theorem dX9_rest_84 : decode cX9_rest 84 = .ok (.istore_n 2, 1) := by decide +kernel
theorem dX9_rest_85 : decode cX9_rest 85 = .ok (.iinc 4 1, 3) := by decide +kernel
theorem dX9_rest_88 : decode cX9_rest 88 = .ok (.goto (-21), 3) := by decide +kernel
theorem dX9_rest_91 : decode cX9_rest 91 = .ok (.iinc 3 1, 3) := by decide +kernel
theorem dX9_rest_94 : decode cX9_rest 94 = .ok (.goto (-41), 3) := by decide +kernel
theorem dX9_rest_97 : decode cX9_rest 97 = .ok (.aload_n 0, 1) := by decide +kernel
theorem dX9_rest_98 : decode cX9_rest 98 = .ok (.getfield 57, 3) := by decide +kernel
theorem dX9_rest_101 : decode cX9_rest 101 = .ok (.getfield 293, 3) := by decide +kernel
theorem dX9_rest_104 : decode cX9_rest 104 = .ok (.iload_n 1, 1) := by decide +kernel
theorem dX9_rest_105 : decode cX9_rest 105 = .ok (.iaload, 1) := by decide +kernel
theorem dX9_rest_106 : decode cX9_rest 106 = .ok (.ireturn, 1) := by decide +kernel
theorem dX9_takesBetterFee_0 : decode cX9_takesBetterFee 0 = .ok (.aload_n 0, 1) := by decide +kernel
theorem dX9_takesBetterFee_1 : decode cX9_takesBetterFee 1 = .ok (.getfield 57, 3) := by decide +kernel
theorem dX9_takesBetterFee_4 : decode cX9_takesBetterFee 4 = .ok (.iload_n 1, 1) := by decide +kernel
theorem dX9_takesBetterFee_5 : decode cX9_takesBetterFee 5 = .ok (.aload_n 0, 1) := by decide +kernel
theorem dX9_takesBetterFee_6 : decode cX9_takesBetterFee 6 = .ok (.getfield 106, 3) := by decide +kernel
theorem dX9_takesBetterFee_9 : decode cX9_takesBetterFee 9 = .ok (.aload_n 0, 1) := by decide +kernel
theorem dX9_takesBetterFee_10 : decode cX9_takesBetterFee 10 = .ok (.getfield 124, 3) := by decide +kernel
theorem dX9_takesBetterFee_13 : decode cX9_takesBetterFee 13 = .ok (.invokevirtual 299, 3) := by decide +kernel
theorem dX9_takesBetterFee_16 : decode cX9_takesBetterFee 16 = .ok (.aload_n 0, 1) := by decide +kernel
theorem dX9_takesBetterFee_17 : decode cX9_takesBetterFee 17 = .ok (.getfield 57, 3) := by decide +kernel
theorem dX9_takesBetterFee_20 : decode cX9_takesBetterFee 20 = .ok (.getfield 293, 3) := by decide +kernel
theorem dX9_takesBetterFee_23 : decode cX9_takesBetterFee 23 = .ok (.iload_n 1, 1) := by decide +kernel
theorem dX9_takesBetterFee_24 : decode cX9_takesBetterFee 24 = .ok (.iaload, 1) := by decide +kernel
theorem dX9_takesBetterFee_25 : decode cX9_takesBetterFee 25 = .ok (.istore_n 2, 1) := by decide +kernel
theorem dX9_takesBetterFee_26 : decode cX9_takesBetterFee 26 = .ok (.aload_n 0, 1) := by decide +kernel
theorem dX9_takesBetterFee_27 : decode cX9_takesBetterFee 27 = .ok (.iload_n 1, 1) := by decide +kernel
theorem dX9_takesBetterFee_28 : decode cX9_takesBetterFee 28 = .ok (.iload_n 2, 1) := by decide +kernel
theorem dX9_takesBetterFee_29 : decode cX9_takesBetterFee 29 = .ok (.invokevirtual 302, 3) := by decide +kernel
theorem dX9_takesBetterFee_32 : decode cX9_takesBetterFee 32 = .ok (.istore_n 3, 1) := by decide +kernel
theorem dX9_takesBetterFee_33 : decode cX9_takesBetterFee 33 = .ok (.iconst 0, 1) := by decide +kernel
theorem dX9_takesBetterFee_34 : decode cX9_takesBetterFee 34 = .ok (.istore 4, 2) := by decide +kernel
theorem dX9_takesBetterFee_36 : decode cX9_takesBetterFee 36 = .ok (.iload 4, 2) := by decide +kernel
theorem dX9_takesBetterFee_38 : decode cX9_takesBetterFee 38 = .ok (.bipush 20, 2) := by decide +kernel
theorem dX9_takesBetterFee_40 : decode cX9_takesBetterFee 40 = .ok (.if_icmp .gt 30, 3) := by decide +kernel
theorem dX9_takesBetterFee_43 : decode cX9_takesBetterFee 43 = .ok (.aload_n 0, 1) := by decide +kernel
theorem dX9_takesBetterFee_44 : decode cX9_takesBetterFee 44 = .ok (.iload_n 1, 1) := by decide +kernel
theorem dX9_takesBetterFee_45 : decode cX9_takesBetterFee 45 = .ok (.iload 4, 2) := by decide +kernel
theorem dX9_takesBetterFee_47 : decode cX9_takesBetterFee 47 = .ok (.invokevirtual 302, 3) := by decide +kernel
theorem dX9_takesBetterFee_50 : decode cX9_takesBetterFee 50 = .ok (.istore 5, 2) := by decide +kernel
theorem dX9_takesBetterFee_52 : decode cX9_takesBetterFee 52 = .ok (.iload 5, 2) := by decide +kernel
theorem dX9_takesBetterFee_54 : decode cX9_takesBetterFee 54 = .ok (.iload_n 3, 1) := by decide +kernel
theorem dX9_takesBetterFee_55 : decode cX9_takesBetterFee 55 = .ok (.if_icmp .le 9, 3) := by decide +kernel
theorem dX9_takesBetterFee_58 : decode cX9_takesBetterFee 58 = .ok (.iload 5, 2) := by decide +kernel
theorem dX9_takesBetterFee_60 : decode cX9_takesBetterFee 60 = .ok (.istore_n 3, 1) := by decide +kernel
theorem dX9_takesBetterFee_61 : decode cX9_takesBetterFee 61 = .ok (.iload 4, 2) := by decide +kernel
theorem dX9_takesBetterFee_63 : decode cX9_takesBetterFee 63 = .ok (.istore_n 2, 1) := by decide +kernel
theorem dX9_takesBetterFee_64 : decode cX9_takesBetterFee 64 = .ok (.iinc 4 1, 3) := by decide +kernel
theorem dX9_takesBetterFee_67 : decode cX9_takesBetterFee 67 = .ok (.goto (-31), 3) := by decide +kernel
theorem dX9_takesBetterFee_70 : decode cX9_takesBetterFee 70 = .ok (.iload_n 2, 1) := by decide +kernel
theorem dX9_takesBetterFee_71 : decode cX9_takesBetterFee 71 = .ok (.aload_n 0, 1) := by decide +kernel
theorem dX9_takesBetterFee_72 : decode cX9_takesBetterFee 72 = .ok (.getfield 57, 3) := by decide +kernel
theorem dX9_takesBetterFee_75 : decode cX9_takesBetterFee 75 = .ok (.getfield 293, 3) := by decide +kernel
theorem dX9_takesBetterFee_78 : decode cX9_takesBetterFee 78 = .ok (.iload_n 1, 1) := by decide +kernel
theorem dX9_takesBetterFee_79 : decode cX9_takesBetterFee 79 = .ok (.iaload, 1) := by decide +kernel
theorem dX9_takesBetterFee_80 : decode cX9_takesBetterFee 80 = .ok (.if_icmp .ne 5, 3) := by decide +kernel
theorem dX9_takesBetterFee_83 : decode cX9_takesBetterFee 83 = .ok (.iconst 0, 1) := by decide +kernel
theorem dX9_takesBetterFee_84 : decode cX9_takesBetterFee 84 = .ok (.ireturn, 1) := by decide +kernel
theorem dX9_takesBetterFee_85 : decode cX9_takesBetterFee 85 = .ok (.aload_n 0, 1) := by decide +kernel
theorem dX9_takesBetterFee_86 : decode cX9_takesBetterFee 86 = .ok (.getfield 57, 3) := by decide +kernel
theorem dX9_takesBetterFee_89 : decode cX9_takesBetterFee 89 = .ok (.getfield 293, 3) := by decide +kernel
theorem dX9_takesBetterFee_92 : decode cX9_takesBetterFee 92 = .ok (.iload_n 1, 1) := by decide +kernel
theorem dX9_takesBetterFee_93 : decode cX9_takesBetterFee 93 = .ok (.iload_n 2, 1) := by decide +kernel
theorem dX9_takesBetterFee_94 : decode cX9_takesBetterFee 94 = .ok (.iastore, 1) := by decide +kernel
theorem dX9_takesBetterFee_95 : decode cX9_takesBetterFee 95 = .ok (.aload_n 0, 1) := by decide +kernel
theorem dX9_takesBetterFee_96 : decode cX9_takesBetterFee 96 = .ok (.iload_n 1, 1) := by decide +kernel
theorem dX9_takesBetterFee_97 : decode cX9_takesBetterFee 97 = .ok (.iload_n 2, 1) := by decide +kernel
theorem dX9_takesBetterFee_98 : decode cX9_takesBetterFee 98 = .ok (.invokevirtual 305, 3) := by decide +kernel
theorem dX9_takesBetterFee_101 : decode cX9_takesBetterFee 101 = .ok (.iconst 1, 1) := by decide +kernel
theorem dX9_takesBetterFee_102 : decode cX9_takesBetterFee 102 = .ok (.ireturn, 1) := by decide +kernel
theorem dX9_earnsBy_0 : decode cX9_earnsBy 0 = .ok (.aload_n 0, 1) := by decide +kernel
theorem dX9_earnsBy_1 : decode cX9_earnsBy 1 = .ok (.getfield 11, 3) := by decide +kernel
theorem dX9_earnsBy_4 : decode cX9_earnsBy 4 = .ok (.iload_n 1, 1) := by decide +kernel
theorem dX9_earnsBy_5 : decode cX9_earnsBy 5 = .ok (.aaload, 1) := by decide +kernel
theorem dX9_earnsBy_6 : decode cX9_earnsBy 6 = .ok (.iload_n 2, 1) := by decide +kernel
theorem dX9_earnsBy_7 : decode cX9_earnsBy 7 = .ok (.invokevirtual 166, 3) := by decide +kernel
theorem dX9_earnsBy_10 : decode cX9_earnsBy 10 = .ok (.istore_n 3, 1) := by decide +kernel
theorem dX9_earnsBy_11 : decode cX9_earnsBy 11 = .ok (.iconst 0, 1) := by decide +kernel
theorem dX9_earnsBy_12 : decode cX9_earnsBy 12 = .ok (.istore 4, 2) := by decide +kernel
theorem dX9_earnsBy_14 : decode cX9_earnsBy 14 = .ok (.iconst 0, 1) := by decide +kernel
theorem dX9_earnsBy_15 : decode cX9_earnsBy 15 = .ok (.istore 5, 2) := by decide +kernel
theorem dX9_earnsBy_17 : decode cX9_earnsBy 17 = .ok (.iload 5, 2) := by decide +kernel
theorem dX9_earnsBy_19 : decode cX9_earnsBy 19 = .ok (.aload_n 0, 1) := by decide +kernel
theorem dX9_earnsBy_20 : decode cX9_earnsBy 20 = .ok (.getfield 124, 3) := by decide +kernel
theorem dX9_earnsBy_23 : decode cX9_earnsBy 23 = .ok (.if_icmp .ge 71, 3) := by decide +kernel
theorem dX9_earnsBy_26 : decode cX9_earnsBy 26 = .ok (.aload_n 0, 1) := by decide +kernel
theorem dX9_earnsBy_27 : decode cX9_earnsBy 27 = .ok (.getfield 64, 3) := by decide +kernel
theorem dX9_earnsBy_30 : decode cX9_earnsBy 30 = .ok (.getfield 133, 3) := by decide +kernel
theorem dX9_earnsBy_33 : decode cX9_earnsBy 33 = .ok (.iload 5, 2) := by decide +kernel
theorem dX9_earnsBy_35 : decode cX9_earnsBy 35 = .ok (.iaload, 1) := by decide +kernel
theorem dX9_earnsBy_36 : decode cX9_earnsBy 36 = .ok (.iload_n 1, 1) := by decide +kernel
theorem dX9_earnsBy_37 : decode cX9_earnsBy 37 = .ok (.if_icmp .eq 51, 3) := by decide +kernel
theorem dX9_earnsBy_40 : decode cX9_earnsBy 40 = .ok (.aload_n 0, 1) := by decide +kernel
theorem dX9_earnsBy_41 : decode cX9_earnsBy 41 = .ok (.iload 5, 2) := by decide +kernel
theorem dX9_earnsBy_43 : decode cX9_earnsBy 43 = .ok (.invokevirtual 192, 3) := by decide +kernel
theorem dX9_earnsBy_46 : decode cX9_earnsBy 46 = .ok (.ifCond .eq 42, 3) := by decide +kernel
theorem dX9_earnsBy_49 : decode cX9_earnsBy 49 = .ok (.aload_n 0, 1) := by decide +kernel
theorem dX9_earnsBy_50 : decode cX9_earnsBy 50 = .ok (.iload_n 1, 1) := by decide +kernel
theorem dX9_earnsBy_51 : decode cX9_earnsBy 51 = .ok (.iload_n 2, 1) := by decide +kernel
theorem dX9_earnsBy_52 : decode cX9_earnsBy 52 = .ok (.iconst 0, 1) := by decide +kernel
theorem dX9_earnsBy_53 : decode cX9_earnsBy 53 = .ok (.invokevirtual 183, 3) := by decide +kernel
theorem dX9_earnsBy_56 : decode cX9_earnsBy 56 = .ok (.istore 6, 2) := by decide +kernel
theorem dX9_earnsBy_58 : decode cX9_earnsBy 58 = .ok (.iload 4, 2) := by decide +kernel
theorem dX9_earnsBy_60 : decode cX9_earnsBy 60 = .ok (.iload 6, 2) := by decide +kernel
theorem dX9_earnsBy_62 : decode cX9_earnsBy 62 = .ok (.ifCond .lt 22, 3) := by decide +kernel
theorem dX9_earnsBy_65 : decode cX9_earnsBy 65 = .ok (.iload 6, 2) := by decide +kernel
theorem dX9_earnsBy_67 : decode cX9_earnsBy 67 = .ok (.aload_n 0, 1) := by decide +kernel
theorem dX9_earnsBy_68 : decode cX9_earnsBy 68 = .ok (.getfield 57, 3) := by decide +kernel
theorem dX9_earnsBy_71 : decode cX9_earnsBy 71 = .ok (.getfield 309, 3) := by decide +kernel
theorem dX9_earnsBy_74 : decode cX9_earnsBy 74 = .ok (.iload 5, 2) := by decide +kernel
theorem dX9_earnsBy_76 : decode cX9_earnsBy 76 = .ok (.iaload, 1) := by decide +kernel
theorem dX9_earnsBy_77 : decode cX9_earnsBy 77 = .ok (.if_icmp .gt 7, 3) := by decide +kernel
theorem dX9_earnsBy_80 : decode cX9_earnsBy 80 = .ok (.iload_n 3, 1) := by decide +kernel
theorem dX9_earnsBy_81 : decode cX9_earnsBy 81 = .ok (.goto 4, 3) := by decide +kernel
theorem dX9_earnsBy_84 : decode cX9_earnsBy 84 = .ok (.iconst 0, 1) := by decide +kernel
theorem dX9_earnsBy_85 : decode cX9_earnsBy 85 = .ok (.iadd, 1) := by decide +kernel
theorem dX9_earnsBy_86 : decode cX9_earnsBy 86 = .ok (.istore 4, 2) := by decide +kernel
theorem dX9_earnsBy_88 : decode cX9_earnsBy 88 = .ok (.iinc 5 1, 3) := by decide +kernel
theorem dX9_earnsBy_91 : decode cX9_earnsBy 91 = .ok (.goto (-74), 3) := by decide +kernel
theorem dX9_earnsBy_94 : decode cX9_earnsBy 94 = .ok (.iload 4, 2) := by decide +kernel
theorem dX9_earnsBy_96 : decode cX9_earnsBy 96 = .ok (.ireturn, 1) := by decide +kernel
theorem dX9_fillCosts_0 : decode cX9_fillCosts 0 = .ok (.iconst 0, 1) := by decide +kernel
theorem dX9_fillCosts_1 : decode cX9_fillCosts 1 = .ok (.istore_n 1, 1) := by decide +kernel
theorem dX9_fillCosts_2 : decode cX9_fillCosts 2 = .ok (.iload_n 1, 1) := by decide +kernel
theorem dX9_fillCosts_3 : decode cX9_fillCosts 3 = .ok (.aload_n 0, 1) := by decide +kernel
theorem dX9_fillCosts_4 : decode cX9_fillCosts 4 = .ok (.getfield 106, 3) := by decide +kernel
theorem dX9_fillCosts_7 : decode cX9_fillCosts 7 = .ok (.if_icmp .ge 23, 3) := by decide +kernel
theorem dX9_fillCosts_10 : decode cX9_fillCosts 10 = .ok (.aload_n 0, 1) := by decide +kernel
theorem dX9_fillCosts_11 : decode cX9_fillCosts 11 = .ok (.iload_n 1, 1) := by decide +kernel
theorem dX9_fillCosts_12 : decode cX9_fillCosts 12 = .ok (.aload_n 0, 1) := by decide +kernel
theorem dX9_fillCosts_13 : decode cX9_fillCosts 13 = .ok (.getfield 64, 3) := by decide +kernel
theorem dX9_fillCosts_16 : decode cX9_fillCosts 16 = .ok (.getfield 122, 3) := by decide +kernel
theorem dX9_fillCosts_19 : decode cX9_fillCosts 19 = .ok (.iload_n 1, 1) := by decide +kernel
theorem dX9_fillCosts_20 : decode cX9_fillCosts 20 = .ok (.iaload, 1) := by decide +kernel
theorem dX9_fillCosts_21 : decode cX9_fillCosts 21 = .ok (.invokevirtual 305, 3) := by decide +kernel
theorem dX9_fillCosts_24 : decode cX9_fillCosts 24 = .ok (.iinc 1 1, 3) := by decide +kernel
theorem dX9_fillCosts_27 : decode cX9_fillCosts 27 = .ok (.goto (-25), 3) := by decide +kernel
theorem dX9_fillCosts_30 : decode cX9_fillCosts 30 = .ok (.return_, 1) := by decide +kernel
theorem dX9_fillCostsOf_0 : decode cX9_fillCostsOf 0 = .ok (.iconst 0, 1) := by decide +kernel
theorem dX9_fillCostsOf_1 : decode cX9_fillCostsOf 1 = .ok (.istore_n 3, 1) := by decide +kernel
theorem dX9_fillCostsOf_2 : decode cX9_fillCostsOf 2 = .ok (.iload_n 3, 1) := by decide +kernel
theorem dX9_fillCostsOf_3 : decode cX9_fillCostsOf 3 = .ok (.aload_n 0, 1) := by decide +kernel
theorem dX9_fillCostsOf_4 : decode cX9_fillCostsOf 4 = .ok (.getfield 124, 3) := by decide +kernel
theorem dX9_fillCostsOf_7 : decode cX9_fillCostsOf 7 = .ok (.if_icmp .ge 43, 3) := by decide +kernel
theorem dX9_fillCostsOf_10 : decode cX9_fillCostsOf 10 = .ok (.aload_n 0, 1) := by decide +kernel
theorem dX9_fillCostsOf_11 : decode cX9_fillCostsOf 11 = .ok (.getfield 57, 3) := by decide +kernel
theorem dX9_fillCostsOf_14 : decode cX9_fillCostsOf 14 = .ok (.getfield 279, 3) := by decide +kernel
theorem dX9_fillCostsOf_17 : decode cX9_fillCostsOf 17 = .ok (.iload_n 1, 1) := by decide +kernel
theorem dX9_fillCostsOf_18 : decode cX9_fillCostsOf 18 = .ok (.bipush 7, 2) := by decide +kernel
theorem dX9_fillCostsOf_20 : decode cX9_fillCostsOf 20 = .ok (.imul, 1) := by decide +kernel
theorem dX9_fillCostsOf_21 : decode cX9_fillCostsOf 21 = .ok (.iload_n 3, 1) := by decide +kernel
theorem dX9_fillCostsOf_22 : decode cX9_fillCostsOf 22 = .ok (.iadd, 1) := by decide +kernel
theorem dX9_fillCostsOf_23 : decode cX9_fillCostsOf 23 = .ok (.aload_n 0, 1) := by decide +kernel
theorem dX9_fillCostsOf_24 : decode cX9_fillCostsOf 24 = .ok (.iload_n 3, 1) := by decide +kernel
theorem dX9_fillCostsOf_25 : decode cX9_fillCostsOf 25 = .ok (.invokevirtual 192, 3) := by decide +kernel
theorem dX9_fillCostsOf_28 : decode cX9_fillCostsOf 28 = .ok (.ifCond .eq 13, 3) := by decide +kernel
theorem dX9_fillCostsOf_31 : decode cX9_fillCostsOf 31 = .ok (.aload_n 0, 1) := by decide +kernel
theorem dX9_fillCostsOf_32 : decode cX9_fillCostsOf 32 = .ok (.iload_n 1, 1) := by decide +kernel
theorem dX9_fillCostsOf_33 : decode cX9_fillCostsOf 33 = .ok (.iload_n 2, 1) := by decide +kernel
theorem dX9_fillCostsOf_34 : decode cX9_fillCostsOf 34 = .ok (.iconst 0, 1) := by decide +kernel
theorem dX9_fillCostsOf_35 : decode cX9_fillCostsOf 35 = .ok (.invokevirtual 183, 3) := by decide +kernel
theorem dX9_fillCostsOf_38 : decode cX9_fillCostsOf 38 = .ok (.goto 5, 3) := by decide +kernel
theorem dX9_fillCostsOf_41 : decode cX9_fillCostsOf 41 = .ok (.bipush (-5), 2) := by decide +kernel
theorem dX9_fillCostsOf_43 : decode cX9_fillCostsOf 43 = .ok (.iastore, 1) := by decide +kernel
theorem dX9_fillCostsOf_44 : decode cX9_fillCostsOf 44 = .ok (.iinc 3 1, 3) := by decide +kernel
theorem dX9_fillCostsOf_47 : decode cX9_fillCostsOf 47 = .ok (.goto (-45), 3) := by decide +kernel
theorem dX9_fillCostsOf_50 : decode cX9_fillCostsOf 50 = .ok (.return_, 1) := by decide +kernel
theorem dX9_lies_0 : decode cX9_lies 0 = .ok (.iload_n 1, 1) := by decide +kernel
theorem dX9_lies_1 : decode cX9_lies 1 = .ok (.invokestatic 312, 3) := by decide +kernel
theorem dX9_lies_4 : decode cX9_lies 4 = .ok (.ifCond .ne 6, 3) := by decide +kernel
theorem dX9_lies_7 : decode cX9_lies 7 = .ok (.bipush (-2), 2) := by decide +kernel
theorem dX9_lies_9 : decode cX9_lies 9 = .ok (.ireturn, 1) := by decide +kernel
theorem dX9_lies_10 : decode cX9_lies 10 = .ok (.aload_n 0, 1) := by decide +kernel
theorem dX9_lies_11 : decode cX9_lies 11 = .ok (.getfield 29, 3) := by decide +kernel
theorem dX9_lies_14 : decode cX9_lies 14 = .ok (.iload_n 1, 1) := by decide +kernel
theorem dX9_lies_15 : decode cX9_lies 15 = .ok (.aaload, 1) := by decide +kernel
theorem dX9_lies_16 : decode cX9_lies 16 = .ok (.astore_n 2, 1) := by decide +kernel
theorem dX9_lies_17 : decode cX9_lies 17 = .ok (.aload_n 2, 1) := by decide +kernel
theorem dX9_lies_18 : decode cX9_lies 18 = .ok (.invokevirtual 315, 3) := by decide +kernel
theorem dX9_lies_21 : decode cX9_lies 21 = .ok (.ifCond .eq 6, 3) := by decide +kernel
theorem dX9_lies_24 : decode cX9_lies 24 = .ok (.bipush (-11), 2) := by decide +kernel
theorem dX9_lies_26 : decode cX9_lies 26 = .ok (.ireturn, 1) := by decide +kernel
theorem dX9_lies_27 : decode cX9_lies 27 = .ok (.aload_n 2, 1) := by decide +kernel
theorem dX9_lies_28 : decode cX9_lies 28 = .ok (.getfield 319, 3) := by decide +kernel
theorem dX9_lies_31 : decode cX9_lies 31 = .ok (.aload_n 0, 1) := by decide +kernel
theorem dX9_lies_32 : decode cX9_lies 32 = .ok (.getfield 106, 3) := by decide +kernel
theorem dX9_lies_35 : decode cX9_lies 35 = .ok (.if_icmp .eq 6, 3) := by decide +kernel
theorem dX9_lies_38 : decode cX9_lies 38 = .ok (.bipush (-2), 2) := by decide +kernel
theorem dX9_lies_40 : decode cX9_lies 40 = .ok (.ireturn, 1) := by decide +kernel
theorem dX9_lies_41 : decode cX9_lies 41 = .ok (.iconst 0, 1) := by decide +kernel
theorem dX9_lies_42 : decode cX9_lies 42 = .ok (.istore_n 3, 1) := by decide +kernel
theorem dX9_lies_43 : decode cX9_lies 43 = .ok (.iconst 0, 1) := by decide +kernel
theorem dX9_lies_44 : decode cX9_lies 44 = .ok (.istore 4, 2) := by decide +kernel
theorem dX9_lies_46 : decode cX9_lies 46 = .ok (.iload 4, 2) := by decide +kernel
theorem dX9_lies_48 : decode cX9_lies 48 = .ok (.aload_n 0, 1) := by decide +kernel
theorem dX9_lies_49 : decode cX9_lies 49 = .ok (.getfield 106, 3) := by decide +kernel
theorem dX9_lies_52 : decode cX9_lies 52 = .ok (.if_icmp .ge 40, 3) := by decide +kernel
theorem dX9_lies_55 : decode cX9_lies 55 = .ok (.iload_n 3, 1) := by decide +kernel
theorem dX9_lies_56 : decode cX9_lies 56 = .ok (.aload_n 2, 1) := by decide +kernel
theorem dX9_lies_57 : decode cX9_lies 57 = .ok (.getfield 320, 3) := by decide +kernel
theorem dX9_lies_60 : decode cX9_lies 60 = .ok (.iload 4, 2) := by decide +kernel
theorem dX9_lies_62 : decode cX9_lies 62 = .ok (.iaload, 1) := by decide +kernel
theorem dX9_lies_63 : decode cX9_lies 63 = .ok (.aload_n 0, 1) := by decide +kernel
theorem dX9_lies_64 : decode cX9_lies 64 = .ok (.getfield 64, 3) := by decide +kernel
theorem dX9_lies_67 : decode cX9_lies 67 = .ok (.getfield 118, 3) := by decide +kernel
theorem dX9_lies_70 : decode cX9_lies 70 = .ok (.iload 4, 2) := by decide +kernel
theorem dX9_lies_72 : decode cX9_lies 72 = .ok (.iaload, 1) := by decide +kernel
theorem dX9_lies_73 : decode cX9_lies 73 = .ok (.if_icmp .ne 7, 3) := by decide +kernel
theorem dX9_lies_76 : decode cX9_lies 76 = .ok (.iconst 0, 1) := by decide +kernel
theorem dX9_lies_77 : decode cX9_lies 77 = .ok (.goto 7, 3) := by decide +kernel
theorem dX9_lies_80 : decode cX9_lies 80 = .ok (.iconst 1, 1) := by decide +kernel
theorem dX9_lies_81 : decode cX9_lies 81 = .ok (.iload 4, 2) := by decide +kernel
theorem dX9_lies_83 : decode cX9_lies 83 = .ok (.ishl, 1) := by decide +kernel
theorem dX9_lies_84 : decode cX9_lies 84 = .ok (.ior, 1) := by decide +kernel
theorem dX9_lies_85 : decode cX9_lies 85 = .ok (.istore_n 3, 1) := by decide +kernel
theorem dX9_lies_86 : decode cX9_lies 86 = .ok (.iinc 4 1, 3) := by decide +kernel
theorem dX9_lies_89 : decode cX9_lies 89 = .ok (.goto (-43), 3) := by decide +kernel
theorem dX9_lies_92 : decode cX9_lies 92 = .ok (.iload_n 3, 1) := by decide +kernel
theorem dX9_lies_93 : decode cX9_lies 93 = .ok (.ireturn, 1) := by decide +kernel
theorem dX9_judge_0 : decode cX9_judge 0 = .ok (.iload_n 1, 1) := by decide +kernel
theorem dX9_judge_1 : decode cX9_judge 1 = .ok (.invokestatic 312, 3) := by decide +kernel
theorem dX9_judge_4 : decode cX9_judge 4 = .ok (.ifCond .eq 11, 3) := by decide +kernel
theorem dX9_judge_7 : decode cX9_judge 7 = .ok (.iload_n 2, 1) := by decide +kernel
theorem dX9_judge_8 : decode cX9_judge 8 = .ok (.iconst 1, 1) := by decide +kernel
theorem dX9_judge_9 : decode cX9_judge 9 = .ok (.invokestatic 102, 3) := by decide +kernel
theorem dX9_judge_12 : decode cX9_judge 12 = .ok (.ifCond .ne 6, 3) := by decide +kernel
theorem dX9_judge_15 : decode cX9_judge 15 = .ok (.bipush (-2), 2) := by decide +kernel
theorem dX9_judge_17 : decode cX9_judge 17 = .ok (.ireturn, 1) := by decide +kernel
theorem dX9_judge_18 : decode cX9_judge 18 = .ok (.aload_n 0, 1) := by decide +kernel
theorem dX9_judge_19 : decode cX9_judge 19 = .ok (.getfield 29, 3) := by decide +kernel
theorem dX9_judge_22 : decode cX9_judge 22 = .ok (.iload_n 1, 1) := by decide +kernel
theorem dX9_judge_23 : decode cX9_judge 23 = .ok (.aaload, 1) := by decide +kernel
theorem dX9_judge_24 : decode cX9_judge 24 = .ok (.astore_n 3, 1) := by decide +kernel
theorem dX9_judge_25 : decode cX9_judge 25 = .ok (.aload_n 3, 1) := by decide +kernel
theorem dX9_judge_26 : decode cX9_judge 26 = .ok (.invokevirtual 315, 3) := by decide +kernel
theorem dX9_judge_29 : decode cX9_judge 29 = .ok (.ifCond .eq 6, 3) := by decide +kernel
theorem dX9_judge_32 : decode cX9_judge 32 = .ok (.bipush (-11), 2) := by decide +kernel
theorem dX9_judge_34 : decode cX9_judge 34 = .ok (.ireturn, 1) := by decide +kernel
theorem dX9_judge_35 : decode cX9_judge 35 = .ok (.aload_n 3, 1) := by decide +kernel
theorem dX9_judge_36 : decode cX9_judge 36 = .ok (.getfield 319, 3) := by decide +kernel
theorem dX9_judge_39 : decode cX9_judge 39 = .ok (.iconst 2, 1) := by decide +kernel
theorem dX9_judge_40 : decode cX9_judge 40 = .ok (.irem, 1) := by decide +kernel
theorem dX9_judge_41 : decode cX9_judge 41 = .ok (.ifCond .eq 6, 3) := by decide +kernel
theorem dX9_judge_44 : decode cX9_judge 44 = .ok (.bipush (-2), 2) := by decide +kernel
theorem dX9_judge_46 : decode cX9_judge 46 = .ok (.ireturn, 1) := by decide +kernel
theorem dX9_judge_47 : decode cX9_judge 47 = .ok (.iconst 0, 1) := by decide +kernel
theorem dX9_judge_48 : decode cX9_judge 48 = .ok (.istore 4, 2) := by decide +kernel
theorem dX9_judge_50 : decode cX9_judge 50 = .ok (.iconst 0, 1) := by decide +kernel
theorem dX9_judge_51 : decode cX9_judge 51 = .ok (.istore 5, 2) := by decide +kernel
theorem dX9_judge_53 : decode cX9_judge 53 = .ok (.iconst 0, 1) := by decide +kernel
theorem dX9_judge_54 : decode cX9_judge 54 = .ok (.istore 6, 2) := by decide +kernel
theorem dX9_judge_56 : decode cX9_judge 56 = .ok (.iload 6, 2) := by decide +kernel
theorem dX9_judge_58 : decode cX9_judge 58 = .ok (.iconst 1, 1) := by decide +kernel
theorem dX9_judge_59 : decode cX9_judge 59 = .ok (.iadd, 1) := by decide +kernel
theorem dX9_judge_60 : decode cX9_judge 60 = .ok (.aload_n 3, 1) := by decide +kernel
theorem dX9_judge_61 : decode cX9_judge 61 = .ok (.getfield 319, 3) := by decide +kernel
theorem dX9_judge_64 : decode cX9_judge 64 = .ok (.if_icmp .ge 72, 3) := by decide +kernel
theorem dX9_judge_67 : decode cX9_judge 67 = .ok (.aload_n 3, 1) := by decide +kernel
theorem dX9_judge_68 : decode cX9_judge 68 = .ok (.getfield 320, 3) := by decide +kernel
theorem dX9_judge_71 : decode cX9_judge 71 = .ok (.iload 6, 2) := by decide +kernel
theorem dX9_judge_73 : decode cX9_judge 73 = .ok (.iconst 1, 1) := by decide +kernel
theorem dX9_judge_74 : decode cX9_judge 74 = .ok (.iadd, 1) := by decide +kernel
theorem dX9_judge_75 : decode cX9_judge 75 = .ok (.iaload, 1) := by decide +kernel
theorem dX9_judge_76 : decode cX9_judge 76 = .ok (.istore 7, 2) := by decide +kernel
theorem dX9_judge_78 : decode cX9_judge 78 = .ok (.aload_n 0, 1) := by decide +kernel
theorem dX9_judge_79 : decode cX9_judge 79 = .ok (.aload_n 3, 1) := by decide +kernel
theorem dX9_judge_80 : decode cX9_judge 80 = .ok (.getfield 320, 3) := by decide +kernel
theorem dX9_judge_83 : decode cX9_judge 83 = .ok (.iload 6, 2) := by decide +kernel
theorem dX9_judge_85 : decode cX9_judge 85 = .ok (.iaload, 1) := by decide +kernel
theorem dX9_judge_86 : decode cX9_judge 86 = .ok (.iload 7, 2) := by decide +kernel
theorem dX9_judge_88 : decode cX9_judge 88 = .ok (.iload 5, 2) := by decide +kernel
theorem dX9_judge_90 : decode cX9_judge 90 = .ok (.invokevirtual 323, 3) := by decide +kernel
theorem dX9_judge_93 : decode cX9_judge 93 = .ok (.istore 8, 2) := by decide +kernel
theorem dX9_judge_95 : decode cX9_judge 95 = .ok (.iload 8, 2) := by decide +kernel
theorem dX9_judge_97 : decode cX9_judge 97 = .ok (.ifCond .ge 17, 3) := by decide +kernel
theorem dX9_judge_100 : decode cX9_judge 100 = .ok (.iload_n 2, 1) := by decide +kernel
theorem dX9_judge_101 : decode cX9_judge 101 = .ok (.ifCond .ne 10, 3) := by decide +kernel
theorem dX9_judge_104 : decode cX9_judge 104 = .ok (.iload 6, 2) := by decide +kernel
theorem dX9_judge_106 : decode cX9_judge 106 = .ok (.iconst 2, 1) := by decide +kernel
theorem dX9_judge_107 : decode cX9_judge 107 = .ok (.idiv, 1) := by decide +kernel
theorem dX9_judge_108 : decode cX9_judge 108 = .ok (.goto 5, 3) := by decide +kernel
theorem dX9_judge_111 : decode cX9_judge 111 = .ok (.iload 4, 2) := by decide +kernel
theorem dX9_judge_113 : decode cX9_judge 113 = .ok (.ireturn, 1) := by decide +kernel
theorem dX9_judge_114 : decode cX9_judge 114 = .ok (.iload 4, 2) := by decide +kernel
theorem dX9_judge_116 : decode cX9_judge 116 = .ok (.iload 8, 2) := by decide +kernel
theorem dX9_judge_118 : decode cX9_judge 118 = .ok (.iadd, 1) := by decide +kernel
theorem dX9_judge_119 : decode cX9_judge 119 = .ok (.istore 4, 2) := by decide +kernel
theorem dX9_judge_121 : decode cX9_judge 121 = .ok (.iload 5, 2) := by decide +kernel
theorem dX9_judge_123 : decode cX9_judge 123 = .ok (.iconst 1, 1) := by decide +kernel
theorem dX9_judge_124 : decode cX9_judge 124 = .ok (.iload 7, 2) := by decide +kernel
theorem dX9_judge_126 : decode cX9_judge 126 = .ok (.ishl, 1) := by decide +kernel
theorem dX9_judge_127 : decode cX9_judge 127 = .ok (.ior, 1) := by decide +kernel
theorem dX9_judge_128 : decode cX9_judge 128 = .ok (.istore 5, 2) := by decide +kernel
theorem dX9_judge_130 : decode cX9_judge 130 = .ok (.iinc 6 2, 3) := by decide +kernel
theorem dX9_judge_133 : decode cX9_judge 133 = .ok (.goto (-77), 3) := by decide +kernel
theorem dX9_judge_136 : decode cX9_judge 136 = .ok (.iload_n 2, 1) := by decide +kernel
theorem dX9_judge_137 : decode cX9_judge 137 = .ok (.ifCond .ne 7, 3) := by decide +kernel
theorem dX9_judge_140 : decode cX9_judge 140 = .ok (.iconst (-1), 1) := by decide +kernel
theorem dX9_judge_141 : decode cX9_judge 141 = .ok (.goto 5, 3) := by decide +kernel
theorem dX9_judge_144 : decode cX9_judge 144 = .ok (.iload 4, 2) := by decide +kernel
theorem dX9_judge_146 : decode cX9_judge 146 = .ok (.ireturn, 1) := by decide +kernel
theorem dX9_priceOfRow_0 : decode cX9_priceOfRow 0 = .ok (.aload_n 0, 1) := by decide +kernel
theorem dX9_priceOfRow_1 : decode cX9_priceOfRow 1 = .ok (.iload_n 1, 1) := by decide +kernel
theorem dX9_priceOfRow_2 : decode cX9_priceOfRow 2 = .ok (.invokevirtual 136, 3) := by decide +kernel
theorem dX9_priceOfRow_5 : decode cX9_priceOfRow 5 = .ok (.ifCond .eq 27, 3) := by decide +kernel
theorem dX9_priceOfRow_8 : decode cX9_priceOfRow 8 = .ok (.aload_n 0, 1) := by decide +kernel
theorem dX9_priceOfRow_9 : decode cX9_priceOfRow 9 = .ok (.iload_n 2, 1) := by decide +kernel
theorem dX9_priceOfRow_10 : decode cX9_priceOfRow 10 = .ok (.invokevirtual 147, 3) := by decide +kernel
theorem dX9_priceOfRow_13 : decode cX9_priceOfRow 13 = .ok (.ifCond .eq 19, 3) := by decide +kernel
theorem dX9_priceOfRow_16 : decode cX9_priceOfRow 16 = .ok (.iload_n 3, 1) := by decide +kernel
theorem dX9_priceOfRow_17 : decode cX9_priceOfRow 17 = .ok (.iload_n 2, 1) := by decide +kernel
theorem dX9_priceOfRow_18 : decode cX9_priceOfRow 18 = .ok (.invokestatic 209, 3) := by decide +kernel
theorem dX9_priceOfRow_21 : decode cX9_priceOfRow 21 = .ok (.ifCond .ne 11, 3) := by decide +kernel
theorem dX9_priceOfRow_24 : decode cX9_priceOfRow 24 = .ok (.aload_n 0, 1) := by decide +kernel
theorem dX9_priceOfRow_25 : decode cX9_priceOfRow 25 = .ok (.iload_n 2, 1) := by decide +kernel
theorem dX9_priceOfRow_26 : decode cX9_priceOfRow 26 = .ok (.invokevirtual 192, 3) := by decide +kernel
theorem dX9_priceOfRow_29 : decode cX9_priceOfRow 29 = .ok (.ifCond .ne 6, 3) := by decide +kernel
theorem dX9_priceOfRow_32 : decode cX9_priceOfRow 32 = .ok (.bipush (-5), 2) := by decide +kernel
theorem dX9_priceOfRow_34 : decode cX9_priceOfRow 34 = .ok (.ireturn, 1) := by decide +kernel
theorem dX9_priceOfRow_35 : decode cX9_priceOfRow 35 = .ok (.aload_n 0, 1) := by decide +kernel
theorem dX9_priceOfRow_36 : decode cX9_priceOfRow 36 = .ok (.iload_n 1, 1) := by decide +kernel
theorem dX9_priceOfRow_37 : decode cX9_priceOfRow 37 = .ok (.aload_n 0, 1) := by decide +kernel
theorem dX9_priceOfRow_38 : decode cX9_priceOfRow 38 = .ok (.getfield 64, 3) := by decide +kernel
theorem dX9_priceOfRow_41 : decode cX9_priceOfRow 41 = .ok (.getfield 122, 3) := by decide +kernel
theorem dX9_priceOfRow_44 : decode cX9_priceOfRow 44 = .ok (.iload_n 1, 1) := by decide +kernel
theorem dX9_priceOfRow_45 : decode cX9_priceOfRow 45 = .ok (.iaload, 1) := by decide +kernel
theorem dX9_priceOfRow_46 : decode cX9_priceOfRow 46 = .ok (.iconst 0, 1) := by decide +kernel
theorem dX9_priceOfRow_47 : decode cX9_priceOfRow 47 = .ok (.invokevirtual 195, 3) := by decide +kernel
theorem dX9_priceOfRow_50 : decode cX9_priceOfRow 50 = .ok (.ireturn, 1) := by decide +kernel
theorem dX9_drawn_0 : decode cX9_drawn 0 = .ok (.aload_n 0, 1) := by decide +kernel
theorem dX9_drawn_1 : decode cX9_drawn 1 = .ok (.getfield 106, 3) := by decide +kernel
theorem dX9_drawn_4 : decode cX9_drawn 4 = .ok (.ifCond .ne 5, 3) := by decide +kernel
theorem dX9_drawn_7 : decode cX9_drawn 7 = .ok (.iconst (-1), 1) := by decide +kernel
theorem dX9_drawn_8 : decode cX9_drawn 8 = .ok (.ireturn, 1) := by decide +kernel
theorem dX9_drawn_9 : decode cX9_drawn 9 = .ok (.iload_n 1, 1) := by decide +kernel
theorem dX9_drawn_10 : decode cX9_drawn 10 = .ok (.istore_n 2, 1) := by decide +kernel
theorem dX9_drawn_11 : decode cX9_drawn 11 = .ok (.iconst 0, 1) := by decide +kernel
theorem dX9_drawn_12 : decode cX9_drawn 12 = .ok (.istore_n 3, 1) := by decide +kernel
theorem dX9_drawn_13 : decode cX9_drawn 13 = .ok (.iconst 0, 1) := by decide +kernel
theorem dX9_drawn_14 : decode cX9_drawn 14 = .ok (.istore 4, 2) := by decide +kernel
theorem dX9_drawn_16 : decode cX9_drawn 16 = .ok (.iload 4, 2) := by decide +kernel
theorem dX9_drawn_18 : decode cX9_drawn 18 = .ok (.aload_n 0, 1) := by decide +kernel
theorem dX9_drawn_19 : decode cX9_drawn 19 = .ok (.getfield 124, 3) := by decide +kernel
theorem dX9_drawn_22 : decode cX9_drawn 22 = .ok (.if_icmp .ge 63, 3) := by decide +kernel
theorem dX9_drawn_25 : decode cX9_drawn 25 = .ok (.aload_n 0, 1) := by decide +kernel
theorem dX9_drawn_26 : decode cX9_drawn 26 = .ok (.iload 4, 2) := by decide +kernel
theorem dX9_drawn_28 : decode cX9_drawn 28 = .ok (.invokevirtual 192, 3) := by decide +kernel
theorem dX9_drawn_31 : decode cX9_drawn 31 = .ok (.ifCond .eq 48, 3) := by decide +kernel
theorem dX9_drawn_34 : decode cX9_drawn 34 = .ok (.iload_n 2, 1) := by decide +kernel
theorem dX9_drawn_35 : decode cX9_drawn 35 = .ok (.ldc_w 326, 3) := by decide +kernel
theorem dX9_drawn_38 : decode cX9_drawn 38 = .ok (.imul, 1) := by decide +kernel
theorem dX9_drawn_39 : decode cX9_drawn 39 = .ok (.sipush 12345, 3) := by decide +kernel
theorem dX9_drawn_42 : decode cX9_drawn 42 = .ok (.iadd, 1) := by decide +kernel
theorem dX9_drawn_43 : decode cX9_drawn 43 = .ok (.istore_n 2, 1) := by decide +kernel
theorem dX9_drawn_44 : decode cX9_drawn 44 = .ok (.iload_n 2, 1) := by decide +kernel
theorem dX9_drawn_45 : decode cX9_drawn 45 = .ok (.bipush 10, 2) := by decide +kernel
theorem dX9_drawn_47 : decode cX9_drawn 47 = .ok (.iushr, 1) := by decide +kernel
theorem dX9_drawn_48 : decode cX9_drawn 48 = .ok (.aload_n 0, 1) := by decide +kernel
theorem dX9_drawn_49 : decode cX9_drawn 49 = .ok (.getfield 106, 3) := by decide +kernel
theorem dX9_drawn_52 : decode cX9_drawn 52 = .ok (.irem, 1) := by decide +kernel
theorem dX9_drawn_53 : decode cX9_drawn 53 = .ok (.istore 5, 2) := by decide +kernel
theorem dX9_drawn_55 : decode cX9_drawn 55 = .ok (.iload_n 3, 1) := by decide +kernel
theorem dX9_drawn_56 : decode cX9_drawn 56 = .ok (.iconst 0, 1) := by decide +kernel
theorem dX9_drawn_57 : decode cX9_drawn 57 = .ok (.aload_n 0, 1) := by decide +kernel
theorem dX9_drawn_58 : decode cX9_drawn 58 = .ok (.iload 5, 2) := by decide +kernel
theorem dX9_drawn_60 : decode cX9_drawn 60 = .ok (.aload_n 0, 1) := by decide +kernel
theorem dX9_drawn_61 : decode cX9_drawn 61 = .ok (.getfield 64, 3) := by decide +kernel
theorem dX9_drawn_64 : decode cX9_drawn 64 = .ok (.getfield 122, 3) := by decide +kernel
theorem dX9_drawn_67 : decode cX9_drawn 67 = .ok (.iload 5, 2) := by decide +kernel
theorem dX9_drawn_69 : decode cX9_drawn 69 = .ok (.iaload, 1) := by decide +kernel
theorem dX9_drawn_70 : decode cX9_drawn 70 = .ok (.iconst 0, 1) := by decide +kernel
theorem dX9_drawn_71 : decode cX9_drawn 71 = .ok (.invokevirtual 195, 3) := by decide +kernel
theorem dX9_drawn_74 : decode cX9_drawn 74 = .ok (.invokestatic 240, 3) := by decide +kernel
theorem dX9_drawn_77 : decode cX9_drawn 77 = .ok (.iadd, 1) := by decide +kernel
theorem dX9_drawn_78 : decode cX9_drawn 78 = .ok (.istore_n 3, 1) := by decide +kernel
theorem dX9_drawn_79 : decode cX9_drawn 79 = .ok (.iinc 4 1, 3) := by decide +kernel
theorem dX9_drawn_82 : decode cX9_drawn 82 = .ok (.goto (-66), 3) := by decide +kernel
theorem dX9_drawn_85 : decode cX9_drawn 85 = .ok (.iload_n 3, 1) := by decide +kernel
theorem dX9_drawn_86 : decode cX9_drawn 86 = .ok (.ireturn, 1) := by decide +kernel
theorem dX9_mean_0 : decode cX9_mean 0 = .ok (.iload_n 1, 1) := by decide +kernel
theorem dX9_mean_1 : decode cX9_mean 1 = .ok (.iconst 1, 1) := by decide +kernel
theorem dX9_mean_2 : decode cX9_mean 2 = .ok (.invokestatic 102, 3) := by decide +kernel
theorem dX9_mean_5 : decode cX9_mean 5 = .ok (.ifCond .eq 10, 3) := by decide +kernel
theorem dX9_mean_8 : decode cX9_mean 8 = .ok (.aload_n 0, 1) := by decide +kernel
theorem dX9_mean_9 : decode cX9_mean 9 = .ok (.getfield 106, 3) := by decide +kernel
theorem dX9_mean_12 : decode cX9_mean 12 = .ok (.ifCond .ne 7, 3) := by decide +kernel
theorem dX9_mean_15 : decode cX9_mean 15 = .ok (.ldc2_w 282, 3) := by decide +kernel
theorem dX9_mean_18 : decode cX9_mean 18 = .ok (.lreturn, 1) := by decide +kernel
theorem dX9_mean_19 : decode cX9_mean 19 = .ok (.iconst 0, 1) := by decide +kernel
theorem dX9_mean_20 : decode cX9_mean 20 = .ok (.istore_n 2, 1) := by decide +kernel
theorem dX9_mean_21 : decode cX9_mean 21 = .ok (.iconst 0, 1) := by decide +kernel
theorem dX9_mean_22 : decode cX9_mean 22 = .ok (.istore_n 3, 1) := by decide +kernel
theorem dX9_mean_23 : decode cX9_mean 23 = .ok (.iload_n 3, 1) := by decide +kernel
theorem dX9_mean_24 : decode cX9_mean 24 = .ok (.aload_n 0, 1) := by decide +kernel
theorem dX9_mean_25 : decode cX9_mean 25 = .ok (.getfield 106, 3) := by decide +kernel
theorem dX9_mean_28 : decode cX9_mean 28 = .ok (.if_icmp .ge 21, 3) := by decide +kernel
theorem dX9_mean_31 : decode cX9_mean 31 = .ok (.iload_n 2, 1) := by decide +kernel
theorem dX9_mean_32 : decode cX9_mean 32 = .ok (.aload_n 0, 1) := by decide +kernel
theorem dX9_mean_33 : decode cX9_mean 33 = .ok (.getfield 64, 3) := by decide +kernel
theorem dX9_mean_36 : decode cX9_mean 36 = .ok (.getfield 118, 3) := by decide +kernel
theorem dX9_mean_39 : decode cX9_mean 39 = .ok (.iload_n 3, 1) := by decide +kernel
theorem dX9_mean_40 : decode cX9_mean 40 = .ok (.iaload, 1) := by decide +kernel
theorem dX9_mean_41 : decode cX9_mean 41 = .ok (.iadd, 1) := by decide +kernel
theorem dX9_mean_42 : decode cX9_mean 42 = .ok (.istore_n 2, 1) := by decide +kernel
theorem dX9_mean_43 : decode cX9_mean 43 = .ok (.iinc 3 1, 3) := by decide +kernel
theorem dX9_mean_46 : decode cX9_mean 46 = .ok (.goto (-23), 3) := by decide +kernel
theorem dX9_mean_49 : decode cX9_mean 49 = .ok (.aload_n 0, 1) := by decide +kernel
theorem dX9_mean_50 : decode cX9_mean 50 = .ok (.getfield 106, 3) := by decide +kernel
theorem dX9_mean_53 : decode cX9_mean 53 = .ok (.istore_n 3, 1) := by decide +kernel
theorem dX9_mean_54 : decode cX9_mean 54 = .ok (.iload_n 3, 1) := by decide +kernel
theorem dX9_mean_55 : decode cX9_mean 55 = .ok (.iconst 1, 1) := by decide +kernel
theorem dX9_mean_56 : decode cX9_mean 56 = .ok (.if_icmp .le 24, 3) := by decide +kernel
theorem dX9_mean_59 : decode cX9_mean 59 = .ok (.iload_n 2, 1) := by decide +kernel
theorem dX9_mean_60 : decode cX9_mean 60 = .ok (.iload_n 3, 1) := by decide +kernel
theorem dX9_mean_61 : decode cX9_mean 61 = .ok (.irem, 1) := by decide +kernel
theorem dX9_mean_62 : decode cX9_mean 62 = .ok (.ifCond .ne 12, 3) := by decide +kernel
theorem dX9_mean_65 : decode cX9_mean 65 = .ok (.aload_n 0, 1) := by decide +kernel
theorem dX9_mean_66 : decode cX9_mean 66 = .ok (.getfield 106, 3) := by decide +kernel
theorem dX9_mean_69 : decode cX9_mean 69 = .ok (.iload_n 3, 1) := by decide +kernel
theorem dX9_mean_70 : decode cX9_mean 70 = .ok (.irem, 1) := by decide +kernel
theorem dX9_mean_71 : decode cX9_mean 71 = .ok (.ifCond .eq 9, 3) := by decide +kernel
theorem dX9_mean_74 : decode cX9_mean 74 = .ok (.iinc 3 (-1), 3) := by decide +kernel
theorem dX9_mean_77 : decode cX9_mean 77 = .ok (.goto (-23), 3) := by decide +kernel
theorem dX9_mean_80 : decode cX9_mean 80 = .ok (.iload_n 1, 1) := by decide +kernel
theorem dX9_mean_81 : decode cX9_mean 81 = .ok (.ifCond .ne 7, 3) := by decide +kernel
theorem dX9_mean_84 : decode cX9_mean 84 = .ok (.iload_n 2, 1) := by decide +kernel
theorem dX9_mean_85 : decode cX9_mean 85 = .ok (.goto 7, 3) := by decide +kernel
theorem dX9_mean_88 : decode cX9_mean 88 = .ok (.aload_n 0, 1) := by decide +kernel
theorem dX9_mean_89 : decode cX9_mean 89 = .ok (.getfield 106, 3) := by decide +kernel
theorem dX9_mean_92 : decode cX9_mean 92 = .ok (.iload_n 3, 1) := by decide +kernel
theorem dX9_mean_93 : decode cX9_mean 93 = .ok (.idiv, 1) := by decide +kernel
theorem dX9_mean_94 : decode cX9_mean 94 = .ok (.i2l, 1) := by decide +kernel
theorem dX9_mean_95 : decode cX9_mean 95 = .ok (.lreturn, 1) := by decide +kernel
theorem dX9_image_0 : decode cX9_image 0 = .ok (.aload_n 0, 1) := by decide +kernel
theorem dX9_image_1 : decode cX9_image 1 = .ok (.getfield 68, 3) := by decide +kernel
theorem dX9_image_4 : decode cX9_image 4 = .ok (.aload_n 0, 1) := by decide +kernel
theorem dX9_image_5 : decode cX9_image 5 = .ok (.getfield 64, 3) := by decide +kernel
theorem dX9_image_8 : decode cX9_image 8 = .ok (.aload_n 0, 1) := by decide +kernel
theorem dX9_image_9 : decode cX9_image 9 = .ok (.getfield 106, 3) := by decide +kernel
theorem dX9_image_12 : decode cX9_image 12 = .ok (.aload_n 0, 1) := by decide +kernel
theorem dX9_image_13 : decode cX9_image 13 = .ok (.getfield 124, 3) := by decide +kernel
theorem dX9_image_16 : decode cX9_image 16 = .ok (.invokevirtual 327, 3) := by decide +kernel
theorem dX9_image_19 : decode cX9_image 19 = .ok (.aload_n 0, 1) := by decide +kernel
theorem dX9_image_20 : decode cX9_image 20 = .ok (.getfield 68, 3) := by decide +kernel
theorem dX9_image_23 : decode cX9_image 23 = .ok (.aload_n 0, 1) := by decide +kernel
theorem dX9_image_24 : decode cX9_image 24 = .ok (.getfield 106, 3) := by decide +kernel
theorem dX9_image_27 : decode cX9_image 27 = .ok (.putfield 331, 3) := by decide +kernel
theorem dX9_image_30 : decode cX9_image 30 = .ok (.aload_n 0, 1) := by decide +kernel
theorem dX9_image_31 : decode cX9_image 31 = .ok (.getfield 68, 3) := by decide +kernel
theorem dX9_image_34 : decode cX9_image 34 = .ok (.aload_n 0, 1) := by decide +kernel
theorem dX9_image_35 : decode cX9_image 35 = .ok (.getfield 124, 3) := by decide +kernel
theorem dX9_image_38 : decode cX9_image 38 = .ok (.putfield 332, 3) := by decide +kernel
theorem dX9_image_41 : decode cX9_image 41 = .ok (.aload_n 0, 1) := by decide +kernel
theorem dX9_image_42 : decode cX9_image 42 = .ok (.iconst 1, 1) := by decide +kernel
theorem dX9_image_43 : decode cX9_image 43 = .ok (.putfield 333, 3) := by decide +kernel
theorem dX9_image_46 : decode cX9_image 46 = .ok (.aload_n 0, 1) := by decide +kernel
theorem dX9_image_47 : decode cX9_image 47 = .ok (.getfield 64, 3) := by decide +kernel
theorem dX9_image_50 : decode cX9_image 50 = .ok (.getfield 160, 3) := by decide +kernel
theorem dX9_image_53 : decode cX9_image 53 = .ok (.ireturn, 1) := by decide +kernel
theorem dX9_back_0 : decode cX9_back 0 = .ok (.aload_n 0, 1) := by decide +kernel
theorem dX9_back_1 : decode cX9_back 1 = .ok (.getfield 333, 3) := by decide +kernel
theorem dX9_back_4 : decode cX9_back 4 = .ok (.ifCond .ne 6, 3) := by decide +kernel
theorem dX9_back_7 : decode cX9_back 7 = .ok (.bipush (-3), 2) := by decide +kernel
theorem dX9_back_9 : decode cX9_back 9 = .ok (.ireturn, 1) := by decide +kernel
theorem dX9_back_10 : decode cX9_back 10 = .ok (.aload_n 0, 1) := by decide +kernel
theorem dX9_back_11 : decode cX9_back 11 = .ok (.getfield 64, 3) := by decide +kernel
theorem dX9_back_14 : decode cX9_back 14 = .ok (.aload_n 0, 1) := by decide +kernel
theorem dX9_back_15 : decode cX9_back 15 = .ok (.getfield 68, 3) := by decide +kernel
theorem dX9_back_18 : decode cX9_back 18 = .ok (.aload_n 0, 1) := by decide +kernel
theorem dX9_back_19 : decode cX9_back 19 = .ok (.getfield 68, 3) := by decide +kernel
theorem dX9_back_22 : decode cX9_back 22 = .ok (.getfield 331, 3) := by decide +kernel
theorem dX9_back_25 : decode cX9_back 25 = .ok (.aload_n 0, 1) := by decide +kernel
theorem dX9_back_26 : decode cX9_back 26 = .ok (.getfield 68, 3) := by decide +kernel
theorem dX9_back_29 : decode cX9_back 29 = .ok (.getfield 332, 3) := by decide +kernel
theorem dX9_back_32 : decode cX9_back 32 = .ok (.invokevirtual 327, 3) := by decide +kernel
theorem dX9_back_35 : decode cX9_back 35 = .ok (.aload_n 0, 1) := by decide +kernel
theorem dX9_back_36 : decode cX9_back 36 = .ok (.getfield 64, 3) := by decide +kernel
theorem dX9_back_39 : decode cX9_back 39 = .ok (.getfield 160, 3) := by decide +kernel
theorem dX9_back_42 : decode cX9_back 42 = .ok (.ireturn, 1) := by decide +kernel
theorem dX9_count_0 : decode cX9_count 0 = .ok (.iload_n 1, 1) := by decide +kernel
theorem dX9_count_1 : decode cX9_count 1 = .ok (.tableswitch 126 0 9 #[55, 60, 65, 73, 81, 89, 97, 105, 110, 118], 55) := by decide +kernel
theorem dX9_count_56 : decode cX9_count 56 = .ok (.aload_n 0, 1) := by decide +kernel
theorem dX9_count_57 : decode cX9_count 57 = .ok (.getfield 106, 3) := by decide +kernel
theorem dX9_count_60 : decode cX9_count 60 = .ok (.ireturn, 1) := by decide +kernel
theorem dX9_count_61 : decode cX9_count 61 = .ok (.aload_n 0, 1) := by decide +kernel
theorem dX9_count_62 : decode cX9_count 62 = .ok (.getfield 124, 3) := by decide +kernel
theorem dX9_count_65 : decode cX9_count 65 = .ok (.ireturn, 1) := by decide +kernel
theorem dX9_count_66 : decode cX9_count 66 = .ok (.aload_n 0, 1) := by decide +kernel
theorem dX9_count_67 : decode cX9_count 67 = .ok (.invokevirtual 216, 3) := by decide +kernel
theorem dX9_count_70 : decode cX9_count 70 = .ok (.invokestatic 265, 3) := by decide +kernel
theorem dX9_count_73 : decode cX9_count 73 = .ok (.ireturn, 1) := by decide +kernel
theorem dX9_count_74 : decode cX9_count 74 = .ok (.aload_n 0, 1) := by decide +kernel
theorem dX9_count_75 : decode cX9_count 75 = .ok (.getfield 64, 3) := by decide +kernel
theorem dX9_count_78 : decode cX9_count 78 = .ok (.getfield 160, 3) := by decide +kernel
theorem dX9_count_81 : decode cX9_count 81 = .ok (.ireturn, 1) := by decide +kernel
theorem dX9_count_82 : decode cX9_count 82 = .ok (.aload_n 0, 1) := by decide +kernel
theorem dX9_count_83 : decode cX9_count 83 = .ok (.getfield 64, 3) := by decide +kernel
theorem dX9_count_86 : decode cX9_count 86 = .ok (.getfield 201, 3) := by decide +kernel
theorem dX9_count_89 : decode cX9_count 89 = .ok (.ireturn, 1) := by decide +kernel
theorem dX9_count_90 : decode cX9_count 90 = .ok (.aload_n 0, 1) := by decide +kernel
theorem dX9_count_91 : decode cX9_count 91 = .ok (.getfield 64, 3) := by decide +kernel
theorem dX9_count_94 : decode cX9_count 94 = .ok (.getfield 198, 3) := by decide +kernel
theorem dX9_count_97 : decode cX9_count 97 = .ok (.ireturn, 1) := by decide +kernel
theorem dX9_count_98 : decode cX9_count 98 = .ok (.aload_n 0, 1) := by decide +kernel
theorem dX9_count_99 : decode cX9_count 99 = .ok (.getfield 64, 3) := by decide +kernel
theorem dX9_count_102 : decode cX9_count 102 = .ok (.getfield 75, 3) := by decide +kernel
theorem dX9_count_105 : decode cX9_count 105 = .ok (.ireturn, 1) := by decide +kernel
theorem dX9_count_106 : decode cX9_count 106 = .ok (.aload_n 0, 1) := by decide +kernel
theorem dX9_count_107 : decode cX9_count 107 = .ok (.getfield 99, 3) := by decide +kernel
theorem dX9_count_110 : decode cX9_count 110 = .ok (.ireturn, 1) := by decide +kernel
theorem dX9_count_111 : decode cX9_count 111 = .ok (.aload_n 0, 1) := by decide +kernel
theorem dX9_count_112 : decode cX9_count 112 = .ok (.getfield 36, 3) := by decide +kernel
theorem dX9_count_115 : decode cX9_count 115 = .ok (.getfield 172, 3) := by decide +kernel
theorem dX9_count_118 : decode cX9_count 118 = .ok (.ireturn, 1) := by decide +kernel
theorem dX9_count_119 : decode cX9_count 119 = .ok (.aload_n 0, 1) := by decide +kernel
theorem dX9_count_120 : decode cX9_count 120 = .ok (.getfield 64, 3) := by decide +kernel
theorem dX9_count_123 : decode cX9_count 123 = .ok (.getfield 173, 3) := by decide +kernel
theorem dX9_count_126 : decode cX9_count 126 = .ok (.ireturn, 1) := by decide +kernel
theorem dX9_count_127 : decode cX9_count 127 = .ok (.bipush (-2), 2) := by decide +kernel
theorem dX9_count_129 : decode cX9_count 129 = .ok (.ireturn, 1) := by decide +kernel
theorem dX9_sheet_0 : decode cX9_sheet 0 = .ok (.iload_n 1, 1) := by decide +kernel
theorem dX9_sheet_1 : decode cX9_sheet 1 = .ok (.invokestatic 312, 3) := by decide +kernel
theorem dX9_sheet_4 : decode cX9_sheet 4 = .ok (.ifCond .eq 15, 3) := by decide +kernel
theorem dX9_sheet_7 : decode cX9_sheet 7 = .ok (.iload_n 2, 1) := by decide +kernel
theorem dX9_sheet_8 : decode cX9_sheet 8 = .ok (.iconst (-1), 1) := by decide +kernel
theorem dX9_sheet_9 : decode cX9_sheet 9 = .ok (.if_icmp .eq 13, 3) := by decide +kernel
theorem dX9_sheet_12 : decode cX9_sheet 12 = .ok (.iload_n 2, 1) := by decide +kernel
theorem dX9_sheet_13 : decode cX9_sheet 13 = .ok (.invokestatic 337, 3) := by decide +kernel
theorem dX9_sheet_16 : decode cX9_sheet 16 = .ok (.ifCond .ne 6, 3) := by decide +kernel
theorem dX9_sheet_19 : decode cX9_sheet 19 = .ok (.bipush (-2), 2) := by decide +kernel
theorem dX9_sheet_21 : decode cX9_sheet 21 = .ok (.ireturn, 1) := by decide +kernel
theorem dX9_sheet_22 : decode cX9_sheet 22 = .ok (.iload_n 2, 1) := by decide +kernel
theorem dX9_sheet_23 : decode cX9_sheet 23 = .ok (.iconst (-1), 1) := by decide +kernel
theorem dX9_sheet_24 : decode cX9_sheet 24 = .ok (.if_icmp .ne 16, 3) := by decide +kernel
theorem dX9_sheet_27 : decode cX9_sheet 27 = .ok (.aload_n 0, 1) := by decide +kernel
theorem dX9_sheet_28 : decode cX9_sheet 28 = .ok (.getfield 29, 3) := by decide +kernel
theorem dX9_sheet_31 : decode cX9_sheet 31 = .ok (.iload_n 1, 1) := by decide +kernel
theorem dX9_sheet_32 : decode cX9_sheet 32 = .ok (.aaload, 1) := by decide +kernel
theorem dX9_sheet_33 : decode cX9_sheet 33 = .ok (.iconst (-1), 1) := by decide +kernel
theorem dX9_sheet_34 : decode cX9_sheet 34 = .ok (.iconst 0, 1) := by decide +kernel
theorem dX9_sheet_35 : decode cX9_sheet 35 = .ok (.invokevirtual 340, 3) := by decide +kernel
theorem dX9_sheet_38 : decode cX9_sheet 38 = .ok (.iconst 1, 1) := by decide +kernel
theorem dX9_sheet_39 : decode cX9_sheet 39 = .ok (.ireturn, 1) := by decide +kernel
theorem dX9_sheet_40 : decode cX9_sheet 40 = .ok (.iload_n 3, 1) := by decide +kernel
theorem dX9_sheet_41 : decode cX9_sheet 41 = .ok (.bipush 40, 2) := by decide +kernel
theorem dX9_sheet_43 : decode cX9_sheet 43 = .ok (.if_icmp .le 6, 3) := by decide +kernel
theorem dX9_sheet_46 : decode cX9_sheet 46 = .ok (.bipush (-2), 2) := by decide +kernel
theorem dX9_sheet_48 : decode cX9_sheet 48 = .ok (.ireturn, 1) := by decide +kernel
theorem dX9_sheet_49 : decode cX9_sheet 49 = .ok (.iload_n 3, 1) := by decide +kernel
theorem dX9_sheet_50 : decode cX9_sheet 50 = .ok (.ifCond .ge 6, 3) := by decide +kernel
theorem dX9_sheet_53 : decode cX9_sheet 53 = .ok (.bipush (-14), 2) := by decide +kernel
theorem dX9_sheet_55 : decode cX9_sheet 55 = .ok (.ireturn, 1) := by decide +kernel
theorem dX9_sheet_56 : decode cX9_sheet 56 = .ok (.aload_n 0, 1) := by decide +kernel
theorem dX9_sheet_57 : decode cX9_sheet 57 = .ok (.getfield 29, 3) := by decide +kernel
theorem dX9_sheet_60 : decode cX9_sheet 60 = .ok (.iload_n 1, 1) := by decide +kernel
theorem dX9_sheet_61 : decode cX9_sheet 61 = .ok (.aaload, 1) := by decide +kernel
theorem dX9_sheet_62 : decode cX9_sheet 62 = .ok (.iload_n 2, 1) := by decide +kernel
theorem dX9_sheet_63 : decode cX9_sheet 63 = .ok (.iload_n 3, 1) := by decide +kernel
theorem dX9_sheet_64 : decode cX9_sheet 64 = .ok (.invokevirtual 340, 3) := by decide +kernel
theorem dX9_sheet_67 : decode cX9_sheet 67 = .ok (.iconst 1, 1) := by decide +kernel
theorem dX9_sheet_68 : decode cX9_sheet 68 = .ok (.ireturn, 1) := by decide +kernel
theorem dX9_cell_0 : decode cX9_cell 0 = .ok (.iload_n 1, 1) := by decide +kernel
theorem dX9_cell_1 : decode cX9_cell 1 = .ok (.invokestatic 312, 3) := by decide +kernel
theorem dX9_cell_4 : decode cX9_cell 4 = .ok (.ifCond .ne 6, 3) := by decide +kernel
theorem dX9_cell_7 : decode cX9_cell 7 = .ok (.bipush (-2), 2) := by decide +kernel
theorem dX9_cell_9 : decode cX9_cell 9 = .ok (.ireturn, 1) := by decide +kernel
theorem dX9_cell_10 : decode cX9_cell 10 = .ok (.aload_n 0, 1) := by decide +kernel
theorem dX9_cell_11 : decode cX9_cell 11 = .ok (.getfield 29, 3) := by decide +kernel
theorem dX9_cell_14 : decode cX9_cell 14 = .ok (.iload_n 1, 1) := by decide +kernel
theorem dX9_cell_15 : decode cX9_cell 15 = .ok (.aaload, 1) := by decide +kernel
theorem dX9_cell_16 : decode cX9_cell 16 = .ok (.astore 4, 2) := by decide +kernel
theorem dX9_cell_18 : decode cX9_cell 18 = .ok (.aload 4, 2) := by decide +kernel
theorem dX9_cell_20 : decode cX9_cell 20 = .ok (.invokevirtual 315, 3) := by decide +kernel
theorem dX9_cell_23 : decode cX9_cell 23 = .ok (.ifCond .eq 6, 3) := by decide +kernel
theorem dX9_cell_26 : decode cX9_cell 26 = .ok (.bipush (-11), 2) := by decide +kernel
theorem dX9_cell_28 : decode cX9_cell 28 = .ok (.ireturn, 1) := by decide +kernel
theorem dX9_cell_29 : decode cX9_cell 29 = .ok (.aload 4, 2) := by decide +kernel
theorem dX9_cell_31 : decode cX9_cell 31 = .ok (.iload_n 2, 1) := by decide +kernel
theorem dX9_cell_32 : decode cX9_cell 32 = .ok (.invokevirtual 342, 3) := by decide +kernel
theorem dX9_cell_35 : decode cX9_cell 35 = .ok (.ifCond .ne 6, 3) := by decide +kernel
theorem dX9_cell_38 : decode cX9_cell 38 = .ok (.bipush (-12), 2) := by decide +kernel
theorem dX9_cell_40 : decode cX9_cell 40 = .ok (.ireturn, 1) := by decide +kernel
theorem dX9_cell_41 : decode cX9_cell 41 = .ok (.aload 4, 2) := by decide +kernel
theorem dX9_cell_43 : decode cX9_cell 43 = .ok (.iload_n 2, 1) := by decide +kernel
theorem dX9_cell_44 : decode cX9_cell 44 = .ok (.iload_n 3, 1) := by decide +kernel
theorem dX9_cell_45 : decode cX9_cell 45 = .ok (.invokevirtual 345, 3) := by decide +kernel
theorem dX9_cell_48 : decode cX9_cell 48 = .ok (.iconst 1, 1) := by decide +kernel
theorem dX9_cell_49 : decode cX9_cell 49 = .ok (.ireturn, 1) := by decide +kernel
theorem dX9_copy_0 : decode cX9_copy 0 = .ok (.iload_n 1, 1) := by decide +kernel
theorem dX9_copy_1 : decode cX9_copy 1 = .ok (.invokestatic 312, 3) := by decide +kernel
theorem dX9_copy_4 : decode cX9_copy 4 = .ok (.ifCond .eq 10, 3) := by decide +kernel
theorem dX9_copy_7 : decode cX9_copy 7 = .ok (.iload_n 3, 1) := by decide +kernel
theorem dX9_copy_8 : decode cX9_copy 8 = .ok (.invokestatic 312, 3) := by decide +kernel
theorem dX9_copy_11 : decode cX9_copy 11 = .ok (.ifCond .ne 6, 3) := by decide +kernel
theorem dX9_copy_14 : decode cX9_copy 14 = .ok (.bipush (-2), 2) := by decide +kernel
theorem dX9_copy_16 : decode cX9_copy 16 = .ok (.ireturn, 1) := by decide +kernel
theorem dX9_copy_17 : decode cX9_copy 17 = .ok (.aload_n 0, 1) := by decide +kernel
theorem dX9_copy_18 : decode cX9_copy 18 = .ok (.getfield 29, 3) := by decide +kernel
theorem dX9_copy_21 : decode cX9_copy 21 = .ok (.iload_n 1, 1) := by decide +kernel
theorem dX9_copy_22 : decode cX9_copy 22 = .ok (.aaload, 1) := by decide +kernel
theorem dX9_copy_23 : decode cX9_copy 23 = .ok (.astore 6, 2) := by decide +kernel
theorem dX9_copy_25 : decode cX9_copy 25 = .ok (.aload_n 0, 1) := by decide +kernel
theorem dX9_copy_26 : decode cX9_copy 26 = .ok (.getfield 29, 3) := by decide +kernel
theorem dX9_copy_29 : decode cX9_copy 29 = .ok (.iload_n 3, 1) := by decide +kernel
theorem dX9_copy_30 : decode cX9_copy 30 = .ok (.aaload, 1) := by decide +kernel
theorem dX9_copy_31 : decode cX9_copy 31 = .ok (.astore 7, 2) := by decide +kernel
theorem dX9_copy_33 : decode cX9_copy 33 = .ok (.aload 6, 2) := by decide +kernel
theorem dX9_copy_35 : decode cX9_copy 35 = .ok (.invokevirtual 315, 3) := by decide +kernel
theorem dX9_copy_38 : decode cX9_copy 38 = .ok (.ifCond .ne 11, 3) := by decide +kernel
theorem dX9_copy_41 : decode cX9_copy 41 = .ok (.aload 7, 2) := by decide +kernel
theorem dX9_copy_43 : decode cX9_copy 43 = .ok (.invokevirtual 315, 3) := by decide +kernel
theorem dX9_copy_46 : decode cX9_copy 46 = .ok (.ifCond .eq 6, 3) := by decide +kernel
theorem dX9_copy_49 : decode cX9_copy 49 = .ok (.bipush (-11), 2) := by decide +kernel
theorem dX9_copy_51 : decode cX9_copy 51 = .ok (.ireturn, 1) := by decide +kernel
theorem dX9_copy_52 : decode cX9_copy 52 = .ok (.aload 6, 2) := by decide +kernel
theorem dX9_copy_54 : decode cX9_copy 54 = .ok (.getfield 348, 3) := by decide +kernel
theorem dX9_copy_57 : decode cX9_copy 57 = .ok (.aload 7, 2) := by decide +kernel
theorem dX9_copy_59 : decode cX9_copy 59 = .ok (.getfield 348, 3) := by decide +kernel
theorem dX9_copy_62 : decode cX9_copy 62 = .ok (.if_icmp .eq 6, 3) := by decide +kernel
theorem dX9_copy_65 : decode cX9_copy 65 = .ok (.bipush (-13), 2) := by decide +kernel
theorem dX9_copy_67 : decode cX9_copy 67 = .ok (.ireturn, 1) := by decide +kernel
theorem dX9_copy_68 : decode cX9_copy 68 = .ok (.aload 6, 2) := by decide +kernel
theorem dX9_copy_70 : decode cX9_copy 70 = .ok (.iload_n 2, 1) := by decide +kernel
theorem dX9_copy_71 : decode cX9_copy 71 = .ok (.iload 5, 2) := by decide +kernel
theorem dX9_copy_73 : decode cX9_copy 73 = .ok (.invokevirtual 351, 3) := by decide +kernel
theorem dX9_copy_76 : decode cX9_copy 76 = .ok (.ifCond .eq 15, 3) := by decide +kernel
theorem dX9_copy_79 : decode cX9_copy 79 = .ok (.aload 7, 2) := by decide +kernel
theorem dX9_copy_81 : decode cX9_copy 81 = .ok (.iload 4, 2) := by decide +kernel
theorem dX9_copy_83 : decode cX9_copy 83 = .ok (.iload 5, 2) := by decide +kernel
theorem dX9_copy_85 : decode cX9_copy 85 = .ok (.invokevirtual 351, 3) := by decide +kernel
theorem dX9_copy_88 : decode cX9_copy 88 = .ok (.ifCond .ne 6, 3) := by decide +kernel
theorem dX9_copy_91 : decode cX9_copy 91 = .ok (.bipush (-12), 2) := by decide +kernel
theorem dX9_copy_93 : decode cX9_copy 93 = .ok (.ireturn, 1) := by decide +kernel
theorem dX9_copy_94 : decode cX9_copy 94 = .ok (.aload 6, 2) := by decide +kernel
theorem dX9_copy_96 : decode cX9_copy 96 = .ok (.getfield 320, 3) := by decide +kernel
theorem dX9_copy_99 : decode cX9_copy 99 = .ok (.iload_n 2, 1) := by decide +kernel
theorem dX9_copy_100 : decode cX9_copy 100 = .ok (.aload 7, 2) := by decide +kernel
theorem dX9_copy_102 : decode cX9_copy 102 = .ok (.getfield 320, 3) := by decide +kernel
theorem dX9_copy_105 : decode cX9_copy 105 = .ok (.iload 4, 2) := by decide +kernel
theorem dX9_copy_107 : decode cX9_copy 107 = .ok (.iload 5, 2) := by decide +kernel
theorem dX9_copy_109 : decode cX9_copy 109 = .ok (.invokestatic 354, 3) := by decide +kernel
theorem dX9_copy_112 : decode cX9_copy 112 = .ok (.iload 5, 2) := by decide +kernel
theorem dX9_copy_114 : decode cX9_copy 114 = .ok (.ireturn, 1) := by decide +kernel
theorem dX9_things_0 : decode cX9_things 0 = .ok (.iload_n 1, 1) := by decide +kernel
theorem dX9_things_1 : decode cX9_things 1 = .ok (.invokestatic 312, 3) := by decide +kernel
theorem dX9_things_4 : decode cX9_things 4 = .ok (.ifCond .eq 20, 3) := by decide +kernel
theorem dX9_things_7 : decode cX9_things 7 = .ok (.iload_n 2, 1) := by decide +kernel
theorem dX9_things_8 : decode cX9_things 8 = .ok (.invokestatic 337, 3) := by decide +kernel
theorem dX9_things_11 : decode cX9_things 11 = .ok (.ifCond .eq 13, 3) := by decide +kernel
theorem dX9_things_14 : decode cX9_things 14 = .ok (.iload 4, 2) := by decide +kernel
theorem dX9_things_16 : decode cX9_things 16 = .ok (.bipush 7, 2) := by decide +kernel
theorem dX9_things_18 : decode cX9_things 18 = .ok (.invokestatic 102, 3) := by decide +kernel
theorem dX9_things_21 : decode cX9_things 21 = .ok (.ifCond .ne 6, 3) := by decide +kernel
theorem dX9_things_24 : decode cX9_things 24 = .ok (.bipush (-2), 2) := by decide +kernel
theorem dX9_things_26 : decode cX9_things 26 = .ok (.ireturn, 1) := by decide +kernel
theorem dX9_things_27 : decode cX9_things 27 = .ok (.aload_n 0, 1) := by decide +kernel
theorem dX9_things_28 : decode cX9_things 28 = .ok (.getfield 29, 3) := by decide +kernel
theorem dX9_things_31 : decode cX9_things 31 = .ok (.iload_n 1, 1) := by decide +kernel
theorem dX9_things_32 : decode cX9_things 32 = .ok (.aaload, 1) := by decide +kernel
theorem dX9_things_33 : decode cX9_things 33 = .ok (.astore 5, 2) := by decide +kernel
theorem dX9_things_35 : decode cX9_things 35 = .ok (.aload 5, 2) := by decide +kernel
theorem dX9_things_37 : decode cX9_things 37 = .ok (.invokevirtual 315, 3) := by decide +kernel
theorem dX9_things_40 : decode cX9_things 40 = .ok (.ifCond .eq 6, 3) := by decide +kernel
theorem dX9_things_43 : decode cX9_things 43 = .ok (.bipush (-11), 2) := by decide +kernel
theorem dX9_things_45 : decode cX9_things 45 = .ok (.ireturn, 1) := by decide +kernel
theorem dX9_things_46 : decode cX9_things 46 = .ok (.aload 5, 2) := by decide +kernel
theorem dX9_things_48 : decode cX9_things 48 = .ok (.getfield 348, 3) := by decide +kernel
theorem dX9_things_51 : decode cX9_things 51 = .ok (.iload_n 2, 1) := by decide +kernel
theorem dX9_things_52 : decode cX9_things 52 = .ok (.if_icmp .eq 6, 3) := by decide +kernel
theorem dX9_things_55 : decode cX9_things 55 = .ok (.bipush (-13), 2) := by decide +kernel
theorem dX9_things_57 : decode cX9_things 57 = .ok (.ireturn, 1) := by decide +kernel
theorem dX9_things_58 : decode cX9_things 58 = .ok (.iconst 0, 1) := by decide +kernel
theorem dX9_things_59 : decode cX9_things 59 = .ok (.istore 6, 2) := by decide +kernel
theorem dX9_things_61 : decode cX9_things 61 = .ok (.iload_n 3, 1) := by decide +kernel
theorem dX9_things_62 : decode cX9_things 62 = .ok (.istore 7, 2) := by decide +kernel
theorem dX9_things_64 : decode cX9_things 64 = .ok (.iconst 0, 1) := by decide +kernel
theorem dX9_things_65 : decode cX9_things 65 = .ok (.istore 8, 2) := by decide +kernel
theorem dX9_things_67 : decode cX9_things 67 = .ok (.iload 8, 2) := by decide +kernel
theorem dX9_things_69 : decode cX9_things 69 = .ok (.iload 4, 2) := by decide +kernel
theorem dX9_things_71 : decode cX9_things 71 = .ok (.if_icmp .ge 61, 3) := by decide +kernel
theorem dX9_things_74 : decode cX9_things 74 = .ok (.aload 5, 2) := by decide +kernel
theorem dX9_things_76 : decode cX9_things 76 = .ok (.iload 7, 2) := by decide +kernel
theorem dX9_things_78 : decode cX9_things 78 = .ok (.iconst 2, 1) := by decide +kernel
theorem dX9_things_79 : decode cX9_things 79 = .ok (.invokevirtual 351, 3) := by decide +kernel
theorem dX9_things_82 : decode cX9_things 82 = .ok (.ifCond .ne 6, 3) := by decide +kernel
theorem dX9_things_85 : decode cX9_things 85 = .ok (.bipush (-12), 2) := by decide +kernel
theorem dX9_things_87 : decode cX9_things 87 = .ok (.ireturn, 1) := by decide +kernel
theorem dX9_things_88 : decode cX9_things 88 = .ok (.iload 6, 2) := by decide +kernel
theorem dX9_things_90 : decode cX9_things 90 = .ok (.aload_n 0, 1) := by decide +kernel
theorem dX9_things_91 : decode cX9_things 91 = .ok (.aload 5, 2) := by decide +kernel
theorem dX9_things_93 : decode cX9_things 93 = .ok (.getfield 320, 3) := by decide +kernel
theorem dX9_things_96 : decode cX9_things 96 = .ok (.iload 7, 2) := by decide +kernel
theorem dX9_things_98 : decode cX9_things 98 = .ok (.iaload, 1) := by decide +kernel
theorem dX9_things_99 : decode cX9_things 99 = .ok (.aload 5, 2) := by decide +kernel
theorem dX9_things_101 : decode cX9_things 101 = .ok (.getfield 320, 3) := by decide +kernel
theorem dX9_things_104 : decode cX9_things 104 = .ok (.iload 7, 2) := by decide +kernel
theorem dX9_things_106 : decode cX9_things 106 = .ok (.iconst 1, 1) := by decide +kernel
theorem dX9_things_107 : decode cX9_things 107 = .ok (.iadd, 1) := by decide +kernel
theorem dX9_things_108 : decode cX9_things 108 = .ok (.iaload, 1) := by decide +kernel
theorem dX9_things_109 : decode cX9_things 109 = .ok (.invokevirtual 360, 3) := by decide +kernel
theorem dX9_things_112 : decode cX9_things 112 = .ok (.ifCond .lt 7, 3) := by decide +kernel
theorem dX9_things_115 : decode cX9_things 115 = .ok (.iconst 1, 1) := by decide +kernel
theorem dX9_things_116 : decode cX9_things 116 = .ok (.goto 4, 3) := by decide +kernel
theorem dX9_things_119 : decode cX9_things 119 = .ok (.iconst 0, 1) := by decide +kernel
theorem dX9_things_120 : decode cX9_things 120 = .ok (.iadd, 1) := by decide +kernel
theorem dX9_things_121 : decode cX9_things 121 = .ok (.istore 6, 2) := by decide +kernel
theorem dX9_things_123 : decode cX9_things 123 = .ok (.iinc 7 2, 3) := by decide +kernel
theorem dX9_things_126 : decode cX9_things 126 = .ok (.iinc 8 1, 3) := by decide +kernel
theorem dX9_things_129 : decode cX9_things 129 = .ok (.goto (-62), 3) := by decide +kernel
theorem dX9_things_132 : decode cX9_things 132 = .ok (.iload 6, 2) := by decide +kernel
theorem dX9_things_134 : decode cX9_things 134 = .ok (.ireturn, 1) := by decide +kernel
theorem dX9_taken_0 : decode cX9_taken 0 = .ok (.iload_n 2, 1) := by decide +kernel
theorem dX9_taken_1 : decode cX9_taken 1 = .ok (.iconst 5, 1) := by decide +kernel
theorem dX9_taken_2 : decode cX9_taken 2 = .ok (.invokestatic 102, 3) := by decide +kernel
theorem dX9_taken_5 : decode cX9_taken 5 = .ok (.ifCond .ne 6, 3) := by decide +kernel
theorem dX9_taken_8 : decode cX9_taken 8 = .ok (.bipush (-2), 2) := by decide +kernel
theorem dX9_taken_10 : decode cX9_taken 10 = .ok (.ireturn, 1) := by decide +kernel
theorem dX9_taken_11 : decode cX9_taken 11 = .ok (.aload_n 0, 1) := by decide +kernel
theorem dX9_taken_12 : decode cX9_taken 12 = .ok (.iload_n 1, 1) := by decide +kernel
theorem dX9_taken_13 : decode cX9_taken 13 = .ok (.invokevirtual 136, 3) := by decide +kernel
theorem dX9_taken_16 : decode cX9_taken 16 = .ok (.ifCond .ne 6, 3) := by decide +kernel
theorem dX9_taken_19 : decode cX9_taken 19 = .ok (.bipush (-11), 2) := by decide +kernel
theorem dX9_taken_21 : decode cX9_taken 21 = .ok (.ireturn, 1) := by decide +kernel
theorem dX9_taken_22 : decode cX9_taken 22 = .ok (.aload_n 0, 1) := by decide +kernel
theorem dX9_taken_23 : decode cX9_taken 23 = .ok (.getfield 11, 3) := by decide +kernel
theorem dX9_taken_26 : decode cX9_taken 26 = .ok (.iload_n 1, 1) := by decide +kernel
theorem dX9_taken_27 : decode cX9_taken 27 = .ok (.aaload, 1) := by decide +kernel
theorem dX9_taken_28 : decode cX9_taken 28 = .ok (.iload_n 2, 1) := by decide +kernel
theorem dX9_taken_29 : decode cX9_taken 29 = .ok (.invokevirtual 363, 3) := by decide +kernel
theorem dX9_taken_32 : decode cX9_taken 32 = .ok (.ifCond .eq 15, 3) := by decide +kernel
theorem dX9_taken_35 : decode cX9_taken 35 = .ok (.aload_n 0, 1) := by decide +kernel
theorem dX9_taken_36 : decode cX9_taken 36 = .ok (.getfield 11, 3) := by decide +kernel
theorem dX9_taken_39 : decode cX9_taken 39 = .ok (.iload_n 1, 1) := by decide +kernel
theorem dX9_taken_40 : decode cX9_taken 40 = .ok (.aaload, 1) := by decide +kernel
theorem dX9_taken_41 : decode cX9_taken 41 = .ok (.getfield 115, 3) := by decide +kernel
theorem dX9_taken_44 : decode cX9_taken 44 = .ok (.goto 5, 3) := by decide +kernel
theorem dX9_taken_47 : decode cX9_taken 47 = .ok (.bipush (-13), 2) := by decide +kernel
theorem dX9_taken_49 : decode cX9_taken 49 = .ok (.ireturn, 1) := by decide +kernel
theorem dX9_isSheet_0 : decode cX9_isSheet 0 = .ok (.iload_n 0, 1) := by decide +kernel
theorem dX9_isSheet_1 : decode cX9_isSheet 1 = .ok (.ifCond .lt 12, 3) := by decide +kernel
theorem dX9_isSheet_4 : decode cX9_isSheet 4 = .ok (.iload_n 0, 1) := by decide +kernel
theorem dX9_isSheet_5 : decode cX9_isSheet 5 = .ok (.iconst 4, 1) := by decide +kernel
theorem dX9_isSheet_6 : decode cX9_isSheet 6 = .ok (.if_icmp .ge 7, 3) := by decide +kernel
theorem dX9_isSheet_9 : decode cX9_isSheet 9 = .ok (.iconst 1, 1) := by decide +kernel
theorem dX9_isSheet_10 : decode cX9_isSheet 10 = .ok (.goto 4, 3) := by decide +kernel
theorem dX9_isSheet_13 : decode cX9_isSheet 13 = .ok (.iconst 0, 1) := by decide +kernel
theorem dX9_isSheet_14 : decode cX9_isSheet 14 = .ok (.ireturn, 1) := by decide +kernel
theorem dX9_isSort_0 : decode cX9_isSort 0 = .ok (.iload_n 0, 1) := by decide +kernel
theorem dX9_isSort_1 : decode cX9_isSort 1 = .ok (.ifCond .lt 12, 3) := by decide +kernel
theorem dX9_isSort_4 : decode cX9_isSort 4 = .ok (.iload_n 0, 1) := by decide +kernel
theorem dX9_isSort_5 : decode cX9_isSort 5 = .ok (.iconst 2, 1) := by decide +kernel
theorem dX9_isSort_6 : decode cX9_isSort 6 = .ok (.if_icmp .gt 7, 3) := by decide +kernel
theorem dX9_isSort_9 : decode cX9_isSort 9 = .ok (.iconst 1, 1) := by decide +kernel
theorem dX9_isSort_10 : decode cX9_isSort 10 = .ok (.goto 4, 3) := by decide +kernel
theorem dX9_isSort_13 : decode cX9_isSort 13 = .ok (.iconst 0, 1) := by decide +kernel
theorem dX9_isSort_14 : decode cX9_isSort 14 = .ok (.ireturn, 1) := by decide +kernel
