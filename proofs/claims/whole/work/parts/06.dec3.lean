theorem dX10_in_0 : decode cX10_in 0 = .ok (.lload_n 0, 1) := by decide +kernel
theorem dX10_in_1 : decode cX10_in 1 = .ok (.lload_n 2, 1) := by decide +kernel
theorem dX10_in_2 : decode cX10_in 2 = .ok (.lcmp, 1) := by decide +kernel
theorem dX10_in_3 : decode cX10_in 3 = .ok (.ifCond .lt 14, 3) := by decide +kernel
theorem dX10_in_6 : decode cX10_in 6 = .ok (.lload_n 0, 1) := by decide +kernel
theorem dX10_in_7 : decode cX10_in 7 = .ok (.lload 4, 2) := by decide +kernel
theorem dX10_in_9 : decode cX10_in 9 = .ok (.lcmp, 1) := by decide +kernel
theorem dX10_in_10 : decode cX10_in 10 = .ok (.ifCond .gt 7, 3) := by decide +kernel
theorem dX10_in_13 : decode cX10_in 13 = .ok (.iconst 1, 1) := by decide +kernel
theorem dX10_in_14 : decode cX10_in 14 = .ok (.goto 4, 3) := by decide +kernel
theorem dX10_in_17 : decode cX10_in 17 = .ok (.iconst 0, 1) := by decide +kernel
theorem dX10_in_18 : decode cX10_in 18 = .ok (.ireturn, 1) := by decide +kernel
theorem dX10_within_0 : decode cX10_within 0 = .ok (.iload_n 0, 1) := by decide +kernel
theorem dX10_within_1 : decode cX10_within 1 = .ok (.iload_n 1, 1) := by decide +kernel
theorem dX10_within_2 : decode cX10_within 2 = .ok (.if_icmp .ge 7, 3) := by decide +kernel
theorem dX10_within_5 : decode cX10_within 5 = .ok (.iload_n 1, 1) := by decide +kernel
theorem dX10_within_6 : decode cX10_within 6 = .ok (.goto 13, 3) := by decide +kernel
theorem dX10_within_9 : decode cX10_within 9 = .ok (.iload_n 0, 1) := by decide +kernel
theorem dX10_within_10 : decode cX10_within 10 = .ok (.iload_n 2, 1) := by decide +kernel
theorem dX10_within_11 : decode cX10_within 11 = .ok (.if_icmp .le 7, 3) := by decide +kernel
theorem dX10_within_14 : decode cX10_within 14 = .ok (.iload_n 2, 1) := by decide +kernel
theorem dX10_within_15 : decode cX10_within 15 = .ok (.goto 4, 3) := by decide +kernel
theorem dX10_within_18 : decode cX10_within 18 = .ok (.iload_n 0, 1) := by decide +kernel
theorem dX10_within_19 : decode cX10_within 19 = .ok (.ireturn, 1) := by decide +kernel
theorem dX10_bitsOf_0 : decode cX10_bitsOf 0 = .ok (.iconst 0, 1) := by decide +kernel
theorem dX10_bitsOf_1 : decode cX10_bitsOf 1 = .ok (.istore_n 1, 1) := by decide +kernel
theorem dX10_bitsOf_2 : decode cX10_bitsOf 2 = .ok (.iload_n 0, 1) := by decide +kernel
theorem dX10_bitsOf_3 : decode cX10_bitsOf 3 = .ok (.istore_n 2, 1) := by decide +kernel
theorem dX10_bitsOf_4 : decode cX10_bitsOf 4 = .ok (.iload_n 2, 1) := by decide +kernel
theorem dX10_bitsOf_5 : decode cX10_bitsOf 5 = .ok (.ifCond .eq 15, 3) := by decide +kernel
theorem dX10_bitsOf_8 : decode cX10_bitsOf 8 = .ok (.iinc 1 1, 3) := by decide +kernel
theorem dX10_bitsOf_11 : decode cX10_bitsOf 11 = .ok (.iload_n 2, 1) := by decide +kernel
theorem dX10_bitsOf_12 : decode cX10_bitsOf 12 = .ok (.iload_n 2, 1) := by decide +kernel
theorem dX10_bitsOf_13 : decode cX10_bitsOf 13 = .ok (.iconst 1, 1) := by decide +kernel
theorem dX10_bitsOf_14 : decode cX10_bitsOf 14 = .ok (.isub, 1) := by decide +kernel
theorem dX10_bitsOf_15 : decode cX10_bitsOf 15 = .ok (.iand, 1) := by decide +kernel
theorem dX10_bitsOf_16 : decode cX10_bitsOf 16 = .ok (.istore_n 2, 1) := by decide +kernel
theorem dX10_bitsOf_17 : decode cX10_bitsOf 17 = .ok (.goto (-13), 3) := by decide +kernel
theorem dX10_bitsOf_20 : decode cX10_bitsOf 20 = .ok (.iload_n 1, 1) := by decide +kernel
theorem dX10_bitsOf_21 : decode cX10_bitsOf 21 = .ok (.ireturn, 1) := by decide +kernel
theorem dX10_init_0 : decode cX10_init 0 = .ok (.aload_n 0, 1) := by decide +kernel
theorem dX10_init_1 : decode cX10_init 1 = .ok (.invokespecial 7, 3) := by decide +kernel
theorem dX10_init_4 : decode cX10_init 4 = .ok (.aload_n 0, 1) := by decide +kernel
theorem dX10_init_5 : decode cX10_init 5 = .ok (.sipush 960, 3) := by decide +kernel
theorem dX10_init_8 : decode cX10_init 8 = .ok (.newarray .int, 2) := by decide +kernel
theorem dX10_init_10 : decode cX10_init 10 = .ok (.putfield 13, 3) := by decide +kernel
theorem dX10_init_13 : decode cX10_init 13 = .ok (.aload_n 0, 1) := by decide +kernel
theorem dX10_init_14 : decode cX10_init 14 = .ok (.bipush 6, 2) := by decide +kernel
theorem dX10_init_16 : decode cX10_init 16 = .ok (.newarray .int, 2) := by decide +kernel
theorem dX10_init_18 : decode cX10_init 18 = .ok (.putfield 17, 3) := by decide +kernel
theorem dX10_init_21 : decode cX10_init 21 = .ok (.aload_n 0, 1) := by decide +kernel
theorem dX10_init_22 : decode cX10_init 22 = .ok (.sipush 160, 3) := by decide +kernel
theorem dX10_init_25 : decode cX10_init 25 = .ok (.newarray .int, 2) := by decide +kernel
theorem dX10_init_27 : decode cX10_init 27 = .ok (.putfield 20, 3) := by decide +kernel
theorem dX10_init_30 : decode cX10_init 30 = .ok (.aload_n 0, 1) := by decide +kernel
theorem dX10_init_31 : decode cX10_init 31 = .ok (.bipush 7, 2) := by decide +kernel
theorem dX10_init_33 : decode cX10_init 33 = .ok (.newarray .int, 2) := by decide +kernel
theorem dX10_init_35 : decode cX10_init 35 = .ok (.putfield 23, 3) := by decide +kernel
theorem dX10_init_38 : decode cX10_init 38 = .ok (.aload_n 0, 1) := by decide +kernel
theorem dX10_init_39 : decode cX10_init 39 = .ok (.bipush 7, 2) := by decide +kernel
theorem dX10_init_41 : decode cX10_init 41 = .ok (.newarray .int, 2) := by decide +kernel
theorem dX10_init_43 : decode cX10_init 43 = .ok (.putfield 26, 3) := by decide +kernel
theorem dX10_init_46 : decode cX10_init 46 = .ok (.aload_n 0, 1) := by decide +kernel
theorem dX10_init_47 : decode cX10_init 47 = .ok (.bipush 7, 2) := by decide +kernel
theorem dX10_init_49 : decode cX10_init 49 = .ok (.newarray .int, 2) := by decide +kernel
theorem dX10_init_51 : decode cX10_init 51 = .ok (.putfield 29, 3) := by decide +kernel
theorem dX10_init_54 : decode cX10_init 54 = .ok (.aload_n 0, 1) := by decide +kernel
theorem dX10_init_55 : decode cX10_init 55 = .ok (.bipush 7, 2) := by decide +kernel
theorem dX10_init_57 : decode cX10_init 57 = .ok (.newarray .int, 2) := by decide +kernel
theorem dX10_init_59 : decode cX10_init 59 = .ok (.putfield 32, 3) := by decide +kernel
theorem dX10_init_62 : decode cX10_init 62 = .ok (.aload_n 0, 1) := by decide +kernel
theorem dX10_init_63 : decode cX10_init 63 = .ok (.bipush 7, 2) := by decide +kernel
theorem dX10_init_65 : decode cX10_init 65 = .ok (.newarray .int, 2) := by decide +kernel
theorem dX10_init_67 : decode cX10_init 67 = .ok (.putfield 35, 3) := by decide +kernel
theorem dX10_init_70 : decode cX10_init 70 = .ok (.aload_n 0, 1) := by decide +kernel
theorem dX10_init_71 : decode cX10_init 71 = .ok (.bipush 7, 2) := by decide +kernel
theorem dX10_init_73 : decode cX10_init 73 = .ok (.newarray .int, 2) := by decide +kernel
theorem dX10_init_75 : decode cX10_init 75 = .ok (.putfield 38, 3) := by decide +kernel
theorem dX10_init_78 : decode cX10_init 78 = .ok (.aload_n 0, 1) := by decide +kernel
theorem dX10_init_79 : decode cX10_init 79 = .ok (.bipush 7, 2) := by decide +kernel
theorem dX10_init_81 : decode cX10_init 81 = .ok (.newarray .int, 2) := by decide +kernel
theorem dX10_init_83 : decode cX10_init 83 = .ok (.putfield 41, 3) := by decide +kernel
theorem dX10_init_86 : decode cX10_init 86 = .ok (.aload_n 0, 1) := by decide +kernel
theorem dX10_init_87 : decode cX10_init 87 = .ok (.bipush 7, 2) := by decide +kernel
theorem dX10_init_89 : decode cX10_init 89 = .ok (.newarray .int, 2) := by decide +kernel
theorem dX10_init_91 : decode cX10_init 91 = .ok (.putfield 44, 3) := by decide +kernel
theorem dX10_init_94 : decode cX10_init 94 = .ok (.aload_n 0, 1) := by decide +kernel
theorem dX10_init_95 : decode cX10_init 95 = .ok (.bipush 9, 2) := by decide +kernel
theorem dX10_init_97 : decode cX10_init 97 = .ok (.putfield 47, 3) := by decide +kernel
theorem dX10_init_100 : decode cX10_init 100 = .ok (.aload_n 0, 1) := by decide +kernel
theorem dX10_init_101 : decode cX10_init 101 = .ok (.sipush 128, 3) := by decide +kernel
theorem dX10_init_104 : decode cX10_init 104 = .ok (.newarray .int, 2) := by decide +kernel
theorem dX10_init_106 : decode cX10_init 106 = .ok (.putfield 50, 3) := by decide +kernel
theorem dX10_init_109 : decode cX10_init 109 = .ok (.aload_n 0, 1) := by decide +kernel
theorem dX10_init_110 : decode cX10_init 110 = .ok (.sipush 128, 3) := by decide +kernel
theorem dX10_init_113 : decode cX10_init 113 = .ok (.newarray .int, 2) := by decide +kernel
theorem dX10_init_115 : decode cX10_init 115 = .ok (.putfield 53, 3) := by decide +kernel
theorem dX10_init_118 : decode cX10_init 118 = .ok (.aload_n 0, 1) := by decide +kernel
theorem dX10_init_119 : decode cX10_init 119 = .ok (.sipush 128, 3) := by decide +kernel
theorem dX10_init_122 : decode cX10_init 122 = .ok (.newarray .int, 2) := by decide +kernel
theorem dX10_init_124 : decode cX10_init 124 = .ok (.putfield 56, 3) := by decide +kernel
theorem dX10_init_127 : decode cX10_init 127 = .ok (.aload_n 0, 1) := by decide +kernel
theorem dX10_init_128 : decode cX10_init 128 = .ok (.sipush 128, 3) := by decide +kernel
theorem dX10_init_131 : decode cX10_init 131 = .ok (.newarray .int, 2) := by decide +kernel
theorem dX10_init_133 : decode cX10_init 133 = .ok (.putfield 59, 3) := by decide +kernel
theorem dX10_init_136 : decode cX10_init 136 = .ok (.aload_n 0, 1) := by decide +kernel
theorem dX10_init_137 : decode cX10_init 137 = .ok (.sipush 128, 3) := by decide +kernel
theorem dX10_init_140 : decode cX10_init 140 = .ok (.newarray .int, 2) := by decide +kernel
theorem dX10_init_142 : decode cX10_init 142 = .ok (.putfield 62, 3) := by decide +kernel
theorem dX10_init_145 : decode cX10_init 145 = .ok (.aload_n 0, 1) := by decide +kernel
theorem dX10_init_146 : decode cX10_init 146 = .ok (.sipush 128, 3) := by decide +kernel
theorem dX10_init_149 : decode cX10_init 149 = .ok (.newarray .int, 2) := by decide +kernel
theorem dX10_init_151 : decode cX10_init 151 = .ok (.putfield 65, 3) := by decide +kernel
theorem dX10_init_154 : decode cX10_init 154 = .ok (.aload_n 0, 1) := by decide +kernel
theorem dX10_init_155 : decode cX10_init 155 = .ok (.bipush 7, 2) := by decide +kernel
theorem dX10_init_157 : decode cX10_init 157 = .ok (.newarray .int, 2) := by decide +kernel
theorem dX10_init_159 : decode cX10_init 159 = .ok (.putfield 68, 3) := by decide +kernel
theorem dX10_init_162 : decode cX10_init 162 = .ok (.aload_n 0, 1) := by decide +kernel
theorem dX10_init_163 : decode cX10_init 163 = .ok (.bipush 7, 2) := by decide +kernel
theorem dX10_init_165 : decode cX10_init 165 = .ok (.newarray .int, 2) := by decide +kernel
theorem dX10_init_167 : decode cX10_init 167 = .ok (.putfield 71, 3) := by decide +kernel
theorem dX10_init_170 : decode cX10_init 170 = .ok (.aload_n 0, 1) := by decide +kernel
theorem dX10_init_171 : decode cX10_init 171 = .ok (.bipush 7, 2) := by decide +kernel
theorem dX10_init_173 : decode cX10_init 173 = .ok (.newarray .int, 2) := by decide +kernel
theorem dX10_init_175 : decode cX10_init 175 = .ok (.putfield 74, 3) := by decide +kernel
theorem dX10_init_178 : decode cX10_init 178 = .ok (.aload_n 0, 1) := by decide +kernel
theorem dX10_init_179 : decode cX10_init 179 = .ok (.bipush 7, 2) := by decide +kernel
theorem dX10_init_181 : decode cX10_init 181 = .ok (.newarray .int, 2) := by decide +kernel
theorem dX10_init_183 : decode cX10_init 183 = .ok (.putfield 77, 3) := by decide +kernel
theorem dX10_init_186 : decode cX10_init 186 = .ok (.aload_n 0, 1) := by decide +kernel
theorem dX10_init_187 : decode cX10_init 187 = .ok (.iconst (-1), 1) := by decide +kernel
theorem dX10_init_188 : decode cX10_init 188 = .ok (.putfield 80, 3) := by decide +kernel
theorem dX10_init_191 : decode cX10_init 191 = .ok (.aload_n 0, 1) := by decide +kernel
theorem dX10_init_192 : decode cX10_init 192 = .ok (.iconst 4, 1) := by decide +kernel
theorem dX10_init_193 : decode cX10_init 193 = .ok (.newarray .boolean, 2) := by decide +kernel
theorem dX10_init_195 : decode cX10_init 195 = .ok (.putfield 83, 3) := by decide +kernel
theorem dX10_init_198 : decode cX10_init 198 = .ok (.aload_n 0, 1) := by decide +kernel
theorem dX10_init_199 : decode cX10_init 199 = .ok (.iconst 4, 1) := by decide +kernel
theorem dX10_init_200 : decode cX10_init 200 = .ok (.newarray .int, 2) := by decide +kernel
theorem dX10_init_202 : decode cX10_init 202 = .ok (.putfield 87, 3) := by decide +kernel
theorem dX10_init_205 : decode cX10_init 205 = .ok (.aload_n 0, 1) := by decide +kernel
theorem dX10_init_206 : decode cX10_init 206 = .ok (.iconst 4, 1) := by decide +kernel
theorem dX10_init_207 : decode cX10_init 207 = .ok (.newarray .int, 2) := by decide +kernel
theorem dX10_init_209 : decode cX10_init 209 = .ok (.putfield 90, 3) := by decide +kernel
theorem dX10_init_212 : decode cX10_init 212 = .ok (.aload_n 0, 1) := by decide +kernel
theorem dX10_init_213 : decode cX10_init 213 = .ok (.sipush 160, 3) := by decide +kernel
theorem dX10_init_216 : decode cX10_init 216 = .ok (.newarray .int, 2) := by decide +kernel
theorem dX10_init_218 : decode cX10_init 218 = .ok (.putfield 93, 3) := by decide +kernel
theorem dX10_init_221 : decode cX10_init 221 = .ok (.aload_n 0, 1) := by decide +kernel
theorem dX10_init_222 : decode cX10_init 222 = .ok (.iconst 0, 1) := by decide +kernel
theorem dX10_init_223 : decode cX10_init 223 = .ok (.bipush 115, 2) := by decide +kernel
theorem dX10_init_225 : decode cX10_init 225 = .ok (.bipush 101, 2) := by decide +kernel
theorem dX10_init_227 : decode cX10_init 227 = .ok (.bipush 114, 2) := by decide +kernel
theorem dX10_init_229 : decode cX10_init 229 = .ok (.bipush 118, 2) := by decide +kernel
theorem dX10_init_231 : decode cX10_init 231 = .ok (.bipush 101, 2) := by decide +kernel
theorem dX10_init_233 : decode cX10_init 233 = .ok (.bipush 115, 2) := by decide +kernel
theorem dX10_init_235 : decode cX10_init 235 = .ok (.bipush 32, 2) := by decide +kernel
theorem dX10_init_237 : decode cX10_init 237 = .ok (.bipush 115, 2) := by decide +kernel
theorem dX10_init_239 : decode cX10_init 239 = .ok (.invokevirtual 96, 3) := by decide +kernel
theorem dX10_init_242 : decode cX10_init 242 = .ok (.aload_n 0, 1) := by decide +kernel
theorem dX10_init_243 : decode cX10_init 243 = .ok (.bipush 8, 2) := by decide +kernel
theorem dX10_init_245 : decode cX10_init 245 = .ok (.bipush 105, 2) := by decide +kernel
theorem dX10_init_247 : decode cX10_init 247 = .ok (.bipush 122, 2) := by decide +kernel
theorem dX10_init_249 : decode cX10_init 249 = .ok (.bipush 101, 2) := by decide +kernel
theorem dX10_init_251 : decode cX10_init 251 = .ok (.bipush 32, 2) := by decide +kernel
theorem dX10_init_253 : decode cX10_init 253 = .ok (.bipush 60, 2) := by decide +kernel
theorem dX10_init_255 : decode cX10_init 255 = .ok (.bipush 32, 2) := by decide +kernel
theorem dX10_init_257 : decode cX10_init 257 = .ok (.bipush 56, 2) := by decide +kernel
theorem dX10_init_259 : decode cX10_init 259 = .ok (.bipush 32, 2) := by decide +kernel
theorem dX10_init_261 : decode cX10_init 261 = .ok (.invokevirtual 96, 3) := by decide +kernel
theorem dX10_init_264 : decode cX10_init 264 = .ok (.aload_n 0, 1) := by decide +kernel
theorem dX10_init_265 : decode cX10_init 265 = .ok (.bipush 16, 2) := by decide +kernel
theorem dX10_init_267 : decode cX10_init 267 = .ok (.bipush 111, 2) := by decide +kernel
theorem dX10_init_269 : decode cX10_init 269 = .ok (.bipush 114, 2) := by decide +kernel
theorem dX10_init_271 : decode cX10_init 271 = .ok (.bipush 32, 2) := by decide +kernel
theorem dX10_init_273 : decode cX10_init 273 = .ok (.bipush 57, 2) := by decide +kernel
theorem dX10_init_275 : decode cX10_init 275 = .ok (.bipush 32, 2) := by decide +kernel
theorem dX10_init_277 : decode cX10_init 277 = .ok (.bipush 60, 2) := by decide +kernel
theorem dX10_init_279 : decode cX10_init 279 = .ok (.bipush 32, 2) := by decide +kernel
theorem dX10_init_281 : decode cX10_init 281 = .ok (.bipush 97, 2) := by decide +kernel
theorem dX10_init_283 : decode cX10_init 283 = .ok (.invokevirtual 96, 3) := by decide +kernel
theorem dX10_init_286 : decode cX10_init 286 = .ok (.aload_n 0, 1) := by decide +kernel
theorem dX10_init_287 : decode cX10_init 287 = .ok (.bipush 24, 2) := by decide +kernel
theorem dX10_init_289 : decode cX10_init 289 = .ok (.bipush 103, 2) := by decide +kernel
theorem dX10_init_291 : decode cX10_init 291 = .ok (.bipush 101, 2) := by decide +kernel
theorem dX10_init_293 : decode cX10_init 293 = .ok (.bipush 32, 2) := by decide +kernel
theorem dX10_init_295 : decode cX10_init 295 = .ok (.bipush 59, 2) := by decide +kernel
theorem dX10_init_297 : decode cX10_init 297 = .ok (.bipush 32, 2) := by decide +kernel
theorem dX10_init_299 : decode cX10_init 299 = .ok (.bipush 97, 2) := by decide +kernel
theorem dX10_init_301 : decode cX10_init 301 = .ok (.bipush 100, 2) := by decide +kernel
theorem dX10_init_303 : decode cX10_init 303 = .ok (.bipush 100, 2) := by decide +kernel
theorem dX10_init_305 : decode cX10_init 305 = .ok (.invokevirtual 96, 3) := by decide +kernel
theorem dX10_init_308 : decode cX10_init 308 = .ok (.aload_n 0, 1) := by decide +kernel
theorem dX10_init_309 : decode cX10_init 309 = .ok (.bipush 32, 2) := by decide +kernel
theorem dX10_init_311 : decode cX10_init 311 = .ok (.bipush 115, 2) := by decide +kernel
theorem dX10_init_313 : decode cX10_init 313 = .ok (.bipush 32, 2) := by decide +kernel
theorem dX10_init_315 : decode cX10_init 315 = .ok (.bipush 48, 2) := by decide +kernel
theorem dX10_init_317 : decode cX10_init 317 = .ok (.bipush 32, 2) := by decide +kernel
theorem dX10_init_319 : decode cX10_init 319 = .ok (.bipush 59, 2) := by decide +kernel
theorem dX10_init_321 : decode cX10_init 321 = .ok (.bipush 32, 2) := by decide +kernel
theorem dX10_init_323 : decode cX10_init 323 = .ok (.bipush 103, 2) := by decide +kernel
theorem dX10_init_325 : decode cX10_init 325 = .ok (.bipush 97, 2) := by decide +kernel
theorem dX10_init_327 : decode cX10_init 327 = .ok (.invokevirtual 96, 3) := by decide +kernel
theorem dX10_init_330 : decode cX10_init 330 = .ok (.aload_n 0, 1) := by decide +kernel
theorem dX10_init_331 : decode cX10_init 331 = .ok (.bipush 40, 2) := by decide +kernel
theorem dX10_init_333 : decode cX10_init 333 = .ok (.bipush 105, 2) := by decide +kernel
theorem dX10_init_335 : decode cX10_init 335 = .ok (.bipush 110, 2) := by decide +kernel
theorem dX10_init_337 : decode cX10_init 337 = .ok (.bipush 115, 2) := by decide +kernel
theorem dX10_init_339 : decode cX10_init 339 = .ok (.bipush 32, 2) := by decide +kernel
theorem dX10_init_341 : decode cX10_init 341 = .ok (.bipush 118, 2) := by decide +kernel
theorem dX10_init_343 : decode cX10_init 343 = .ok (.bipush 97, 2) := by decide +kernel
theorem dX10_init_345 : decode cX10_init 345 = .ok (.bipush 108, 2) := by decide +kernel
theorem dX10_init_347 : decode cX10_init 347 = .ok (.bipush 117, 2) := by decide +kernel
theorem dX10_init_349 : decode cX10_init 349 = .ok (.invokevirtual 96, 3) := by decide +kernel
theorem dX10_init_352 : decode cX10_init 352 = .ok (.aload_n 0, 1) := by decide +kernel
theorem dX10_init_353 : decode cX10_init 353 = .ok (.bipush 48, 2) := by decide +kernel
theorem dX10_init_355 : decode cX10_init 355 = .ok (.bipush 101, 2) := by decide +kernel
theorem dX10_init_357 : decode cX10_init 357 = .ok (.bipush 32, 2) := by decide +kernel
theorem dX10_init_359 : decode cX10_init 359 = .ok (.bipush 59, 2) := by decide +kernel
theorem dX10_init_361 : decode cX10_init 361 = .ok (.bipush 32, 2) := by decide +kernel
theorem dX10_init_363 : decode cX10_init 363 = .ok (.bipush 32, 2) := by decide +kernel
theorem dX10_init_365 : decode cX10_init 365 = .ok (.bipush 32, 2) := by decide +kernel
theorem dX10_init_367 : decode cX10_init 367 = .ok (.bipush 32, 2) := by decide +kernel
theorem dX10_init_369 : decode cX10_init 369 = .ok (.bipush 32, 2) := by decide +kernel
theorem dX10_init_371 : decode cX10_init 371 = .ok (.invokevirtual 96, 3) := by decide +kernel
theorem dX10_init_374 : decode cX10_init 374 = .ok (.aload_n 0, 1) := by decide +kernel
theorem dX10_init_375 : decode cX10_init 375 = .ok (.getfield 17, 3) := by decide +kernel
theorem dX10_init_378 : decode cX10_init 378 = .ok (.iconst 0, 1) := by decide +kernel
theorem dX10_init_379 : decode cX10_init 379 = .ok (.bipush 56, 2) := by decide +kernel
theorem dX10_init_381 : decode cX10_init 381 = .ok (.iastore, 1) := by decide +kernel
theorem dX10_init_382 : decode cX10_init 382 = .ok (.aload_n 0, 1) := by decide +kernel
theorem dX10_init_383 : decode cX10_init 383 = .ok (.iconst 1, 1) := by decide +kernel
theorem dX10_init_384 : decode cX10_init 384 = .ok (.putfield 100, 3) := by decide +kernel
theorem dX10_init_387 : decode cX10_init 387 = .ok (.return_, 1) := by decide +kernel
theorem dX10_spell_0 : decode cX10_spell 0 = .ok (.aload_n 0, 1) := by decide +kernel
theorem dX10_spell_1 : decode cX10_spell 1 = .ok (.getfield 13, 3) := by decide +kernel
theorem dX10_spell_4 : decode cX10_spell 4 = .ok (.iload_n 1, 1) := by decide +kernel
theorem dX10_spell_5 : decode cX10_spell 5 = .ok (.iload_n 2, 1) := by decide +kernel
theorem dX10_spell_6 : decode cX10_spell 6 = .ok (.iastore, 1) := by decide +kernel
theorem dX10_spell_7 : decode cX10_spell 7 = .ok (.aload_n 0, 1) := by decide +kernel
theorem dX10_spell_8 : decode cX10_spell 8 = .ok (.getfield 13, 3) := by decide +kernel
theorem dX10_spell_11 : decode cX10_spell 11 = .ok (.iload_n 1, 1) := by decide +kernel
theorem dX10_spell_12 : decode cX10_spell 12 = .ok (.iconst 1, 1) := by decide +kernel
theorem dX10_spell_13 : decode cX10_spell 13 = .ok (.iadd, 1) := by decide +kernel
theorem dX10_spell_14 : decode cX10_spell 14 = .ok (.iload_n 3, 1) := by decide +kernel
theorem dX10_spell_15 : decode cX10_spell 15 = .ok (.iastore, 1) := by decide +kernel
theorem dX10_spell_16 : decode cX10_spell 16 = .ok (.aload_n 0, 1) := by decide +kernel
theorem dX10_spell_17 : decode cX10_spell 17 = .ok (.getfield 13, 3) := by decide +kernel
theorem dX10_spell_20 : decode cX10_spell 20 = .ok (.iload_n 1, 1) := by decide +kernel
theorem dX10_spell_21 : decode cX10_spell 21 = .ok (.iconst 2, 1) := by decide +kernel
theorem dX10_spell_22 : decode cX10_spell 22 = .ok (.iadd, 1) := by decide +kernel
theorem dX10_spell_23 : decode cX10_spell 23 = .ok (.iload 4, 2) := by decide +kernel
theorem dX10_spell_25 : decode cX10_spell 25 = .ok (.iastore, 1) := by decide +kernel
theorem dX10_spell_26 : decode cX10_spell 26 = .ok (.aload_n 0, 1) := by decide +kernel
theorem dX10_spell_27 : decode cX10_spell 27 = .ok (.getfield 13, 3) := by decide +kernel
theorem dX10_spell_30 : decode cX10_spell 30 = .ok (.iload_n 1, 1) := by decide +kernel
theorem dX10_spell_31 : decode cX10_spell 31 = .ok (.iconst 3, 1) := by decide +kernel
theorem dX10_spell_32 : decode cX10_spell 32 = .ok (.iadd, 1) := by decide +kernel
theorem dX10_spell_33 : decode cX10_spell 33 = .ok (.iload 5, 2) := by decide +kernel
theorem dX10_spell_35 : decode cX10_spell 35 = .ok (.iastore, 1) := by decide +kernel
theorem dX10_spell_36 : decode cX10_spell 36 = .ok (.aload_n 0, 1) := by decide +kernel
theorem dX10_spell_37 : decode cX10_spell 37 = .ok (.getfield 13, 3) := by decide +kernel
theorem dX10_spell_40 : decode cX10_spell 40 = .ok (.iload_n 1, 1) := by decide +kernel
theorem dX10_spell_41 : decode cX10_spell 41 = .ok (.iconst 4, 1) := by decide +kernel
theorem dX10_spell_42 : decode cX10_spell 42 = .ok (.iadd, 1) := by decide +kernel
theorem dX10_spell_43 : decode cX10_spell 43 = .ok (.iload 6, 2) := by decide +kernel
theorem dX10_spell_45 : decode cX10_spell 45 = .ok (.iastore, 1) := by decide +kernel
theorem dX10_spell_46 : decode cX10_spell 46 = .ok (.aload_n 0, 1) := by decide +kernel
theorem dX10_spell_47 : decode cX10_spell 47 = .ok (.getfield 13, 3) := by decide +kernel
theorem dX10_spell_50 : decode cX10_spell 50 = .ok (.iload_n 1, 1) := by decide +kernel
theorem dX10_spell_51 : decode cX10_spell 51 = .ok (.iconst 5, 1) := by decide +kernel
theorem dX10_spell_52 : decode cX10_spell 52 = .ok (.iadd, 1) := by decide +kernel
theorem dX10_spell_53 : decode cX10_spell 53 = .ok (.iload 7, 2) := by decide +kernel
theorem dX10_spell_55 : decode cX10_spell 55 = .ok (.iastore, 1) := by decide +kernel
theorem dX10_spell_56 : decode cX10_spell 56 = .ok (.aload_n 0, 1) := by decide +kernel
theorem dX10_spell_57 : decode cX10_spell 57 = .ok (.getfield 13, 3) := by decide +kernel
theorem dX10_spell_60 : decode cX10_spell 60 = .ok (.iload_n 1, 1) := by decide +kernel
theorem dX10_spell_61 : decode cX10_spell 61 = .ok (.bipush 6, 2) := by decide +kernel
theorem dX10_spell_63 : decode cX10_spell 63 = .ok (.iadd, 1) := by decide +kernel
theorem dX10_spell_64 : decode cX10_spell 64 = .ok (.iload 8, 2) := by decide +kernel
theorem dX10_spell_66 : decode cX10_spell 66 = .ok (.iastore, 1) := by decide +kernel
theorem dX10_spell_67 : decode cX10_spell 67 = .ok (.aload_n 0, 1) := by decide +kernel
theorem dX10_spell_68 : decode cX10_spell 68 = .ok (.getfield 13, 3) := by decide +kernel
theorem dX10_spell_71 : decode cX10_spell 71 = .ok (.iload_n 1, 1) := by decide +kernel
theorem dX10_spell_72 : decode cX10_spell 72 = .ok (.bipush 7, 2) := by decide +kernel
theorem dX10_spell_74 : decode cX10_spell 74 = .ok (.iadd, 1) := by decide +kernel
theorem dX10_spell_75 : decode cX10_spell 75 = .ok (.iload 9, 2) := by decide +kernel
theorem dX10_spell_77 : decode cX10_spell 77 = .ok (.iastore, 1) := by decide +kernel
theorem dX10_spell_78 : decode cX10_spell 78 = .ok (.return_, 1) := by decide +kernel
theorem dX10_isBuyer_0 : decode cX10_isBuyer 0 = .ok (.iload_n 1, 1) := by decide +kernel
theorem dX10_isBuyer_1 : decode cX10_isBuyer 1 = .ok (.i2l, 1) := by decide +kernel
theorem dX10_isBuyer_2 : decode cX10_isBuyer 2 = .ok (.lconst 0, 1) := by decide +kernel
theorem dX10_isBuyer_3 : decode cX10_isBuyer 3 = .ok (.aload_n 0, 1) := by decide +kernel
theorem dX10_isBuyer_4 : decode cX10_isBuyer 4 = .ok (.getfield 103, 3) := by decide +kernel
theorem dX10_isBuyer_7 : decode cX10_isBuyer 7 = .ok (.iconst 1, 1) := by decide +kernel
theorem dX10_isBuyer_8 : decode cX10_isBuyer 8 = .ok (.isub, 1) := by decide +kernel
theorem dX10_isBuyer_9 : decode cX10_isBuyer 9 = .ok (.i2l, 1) := by decide +kernel
theorem dX10_isBuyer_10 : decode cX10_isBuyer 10 = .ok (.invokestatic 106, 3) := by decide +kernel
theorem dX10_isBuyer_13 : decode cX10_isBuyer 13 = .ok (.ireturn, 1) := by decide +kernel
theorem dX10_isThing_0 : decode cX10_isThing 0 = .ok (.iload_n 1, 1) := by decide +kernel
theorem dX10_isThing_1 : decode cX10_isThing 1 = .ok (.i2l, 1) := by decide +kernel
theorem dX10_isThing_2 : decode cX10_isThing 2 = .ok (.lconst 0, 1) := by decide +kernel
theorem dX10_isThing_3 : decode cX10_isThing 3 = .ok (.aload_n 0, 1) := by decide +kernel
theorem dX10_isThing_4 : decode cX10_isThing 4 = .ok (.getfield 110, 3) := by decide +kernel
theorem dX10_isThing_7 : decode cX10_isThing 7 = .ok (.iconst 1, 1) := by decide +kernel
theorem dX10_isThing_8 : decode cX10_isThing 8 = .ok (.isub, 1) := by decide +kernel
theorem dX10_isThing_9 : decode cX10_isThing 9 = .ok (.i2l, 1) := by decide +kernel
theorem dX10_isThing_10 : decode cX10_isThing 10 = .ok (.invokestatic 106, 3) := by decide +kernel
theorem dX10_isThing_13 : decode cX10_isThing 13 = .ok (.ireturn, 1) := by decide +kernel
theorem dX10_left_0 : decode cX10_left 0 = .ok (.iconst 1, 1) := by decide +kernel
theorem dX10_left_1 : decode cX10_left 1 = .ok (.aload_n 0, 1) := by decide +kernel
theorem dX10_left_2 : decode cX10_left 2 = .ok (.getfield 110, 3) := by decide +kernel
theorem dX10_left_5 : decode cX10_left 5 = .ok (.ishl, 1) := by decide +kernel
theorem dX10_left_6 : decode cX10_left 6 = .ok (.iconst 1, 1) := by decide +kernel
theorem dX10_left_7 : decode cX10_left 7 = .ok (.isub, 1) := by decide +kernel
theorem dX10_left_8 : decode cX10_left 8 = .ok (.aload_n 0, 1) := by decide +kernel
theorem dX10_left_9 : decode cX10_left 9 = .ok (.getfield 113, 3) := by decide +kernel
theorem dX10_left_12 : decode cX10_left 12 = .ok (.iconst (-1), 1) := by decide +kernel
theorem dX10_left_13 : decode cX10_left 13 = .ok (.ixor, 1) := by decide +kernel
theorem dX10_left_14 : decode cX10_left 14 = .ok (.iand, 1) := by decide +kernel
theorem dX10_left_15 : decode cX10_left 15 = .ok (.ireturn, 1) := by decide +kernel
theorem dX10_buyer_0 : decode cX10_buyer 0 = .ok (.iload_n 1, 1) := by decide +kernel
theorem dX10_buyer_1 : decode cX10_buyer 1 = .ok (.i2l, 1) := by decide +kernel
theorem dX10_buyer_2 : decode cX10_buyer 2 = .ok (.lconst 0, 1) := by decide +kernel
theorem dX10_buyer_3 : decode cX10_buyer 3 = .ok (.ldc2_w 116, 3) := by decide +kernel
theorem dX10_buyer_6 : decode cX10_buyer 6 = .ok (.invokestatic 106, 3) := by decide +kernel
theorem dX10_buyer_9 : decode cX10_buyer 9 = .ok (.ifCond .eq 27, 3) := by decide +kernel
theorem dX10_buyer_12 : decode cX10_buyer 12 = .ok (.iload_n 2, 1) := by decide +kernel
theorem dX10_buyer_13 : decode cX10_buyer 13 = .ok (.i2l, 1) := by decide +kernel
theorem dX10_buyer_14 : decode cX10_buyer 14 = .ok (.lconst 0, 1) := by decide +kernel
theorem dX10_buyer_15 : decode cX10_buyer 15 = .ok (.ldc2_w 118, 3) := by decide +kernel
theorem dX10_buyer_18 : decode cX10_buyer 18 = .ok (.invokestatic 106, 3) := by decide +kernel
theorem dX10_buyer_21 : decode cX10_buyer 21 = .ok (.ifCond .eq 15, 3) := by decide +kernel
theorem dX10_buyer_24 : decode cX10_buyer 24 = .ok (.iload_n 3, 1) := by decide +kernel
theorem dX10_buyer_25 : decode cX10_buyer 25 = .ok (.i2l, 1) := by decide +kernel
theorem dX10_buyer_26 : decode cX10_buyer 26 = .ok (.lconst 0, 1) := by decide +kernel
theorem dX10_buyer_27 : decode cX10_buyer 27 = .ok (.ldc2_w 120, 3) := by decide +kernel
theorem dX10_buyer_30 : decode cX10_buyer 30 = .ok (.invokestatic 106, 3) := by decide +kernel
theorem dX10_buyer_33 : decode cX10_buyer 33 = .ok (.ifCond .ne 6, 3) := by decide +kernel
theorem dX10_buyer_36 : decode cX10_buyer 36 = .ok (.bipush (-2), 2) := by decide +kernel
theorem dX10_buyer_38 : decode cX10_buyer 38 = .ok (.ireturn, 1) := by decide +kernel
theorem dX10_buyer_39 : decode cX10_buyer 39 = .ok (.aload_n 0, 1) := by decide +kernel
theorem dX10_buyer_40 : decode cX10_buyer 40 = .ok (.getfield 103, 3) := by decide +kernel
theorem dX10_buyer_43 : decode cX10_buyer 43 = .ok (.bipush 7, 2) := by decide +kernel
theorem dX10_buyer_45 : decode cX10_buyer 45 = .ok (.if_icmp .ne 6, 3) := by decide +kernel
theorem dX10_buyer_48 : decode cX10_buyer 48 = .ok (.bipush (-4), 2) := by decide +kernel
theorem dX10_buyer_50 : decode cX10_buyer 50 = .ok (.ireturn, 1) := by decide +kernel
theorem dX10_buyer_51 : decode cX10_buyer 51 = .ok (.aload_n 0, 1) := by decide +kernel
theorem dX10_buyer_52 : decode cX10_buyer 52 = .ok (.getfield 23, 3) := by decide +kernel
theorem dX10_buyer_55 : decode cX10_buyer 55 = .ok (.aload_n 0, 1) := by decide +kernel
theorem dX10_buyer_56 : decode cX10_buyer 56 = .ok (.getfield 103, 3) := by decide +kernel
theorem dX10_buyer_59 : decode cX10_buyer 59 = .ok (.iload_n 1, 1) := by decide +kernel
theorem dX10_buyer_60 : decode cX10_buyer 60 = .ok (.iastore, 1) := by decide +kernel
theorem dX10_buyer_61 : decode cX10_buyer 61 = .ok (.aload_n 0, 1) := by decide +kernel
theorem dX10_buyer_62 : decode cX10_buyer 62 = .ok (.getfield 26, 3) := by decide +kernel
theorem dX10_buyer_65 : decode cX10_buyer 65 = .ok (.aload_n 0, 1) := by decide +kernel
theorem dX10_buyer_66 : decode cX10_buyer 66 = .ok (.getfield 103, 3) := by decide +kernel
theorem dX10_buyer_69 : decode cX10_buyer 69 = .ok (.iload_n 2, 1) := by decide +kernel
theorem dX10_buyer_70 : decode cX10_buyer 70 = .ok (.bipush 100, 2) := by decide +kernel
theorem dX10_buyer_72 : decode cX10_buyer 72 = .ok (.idiv, 1) := by decide +kernel
theorem dX10_buyer_73 : decode cX10_buyer 73 = .ok (.iastore, 1) := by decide +kernel
theorem dX10_buyer_74 : decode cX10_buyer 74 = .ok (.aload_n 0, 1) := by decide +kernel
theorem dX10_buyer_75 : decode cX10_buyer 75 = .ok (.getfield 29, 3) := by decide +kernel
theorem dX10_buyer_78 : decode cX10_buyer 78 = .ok (.aload_n 0, 1) := by decide +kernel
theorem dX10_buyer_79 : decode cX10_buyer 79 = .ok (.getfield 103, 3) := by decide +kernel
theorem dX10_buyer_82 : decode cX10_buyer 82 = .ok (.iload_n 2, 1) := by decide +kernel
theorem dX10_buyer_83 : decode cX10_buyer 83 = .ok (.bipush 100, 2) := by decide +kernel
theorem dX10_buyer_85 : decode cX10_buyer 85 = .ok (.irem, 1) := by decide +kernel
theorem dX10_buyer_86 : decode cX10_buyer 86 = .ok (.iastore, 1) := by decide +kernel
theorem dX10_buyer_87 : decode cX10_buyer 87 = .ok (.aload_n 0, 1) := by decide +kernel
theorem dX10_buyer_88 : decode cX10_buyer 88 = .ok (.getfield 32, 3) := by decide +kernel
theorem dX10_buyer_91 : decode cX10_buyer 91 = .ok (.aload_n 0, 1) := by decide +kernel
theorem dX10_buyer_92 : decode cX10_buyer 92 = .ok (.getfield 103, 3) := by decide +kernel
theorem dX10_buyer_95 : decode cX10_buyer 95 = .ok (.iload_n 3, 1) := by decide +kernel
theorem dX10_buyer_96 : decode cX10_buyer 96 = .ok (.bipush 10, 2) := by decide +kernel
theorem dX10_buyer_98 : decode cX10_buyer 98 = .ok (.idiv, 1) := by decide +kernel
theorem dX10_buyer_99 : decode cX10_buyer 99 = .ok (.iastore, 1) := by decide +kernel
theorem dX10_buyer_100 : decode cX10_buyer 100 = .ok (.aload_n 0, 1) := by decide +kernel
theorem dX10_buyer_101 : decode cX10_buyer 101 = .ok (.getfield 35, 3) := by decide +kernel
theorem dX10_buyer_104 : decode cX10_buyer 104 = .ok (.aload_n 0, 1) := by decide +kernel
theorem dX10_buyer_105 : decode cX10_buyer 105 = .ok (.getfield 103, 3) := by decide +kernel
theorem dX10_buyer_108 : decode cX10_buyer 108 = .ok (.iload_n 3, 1) := by decide +kernel
theorem dX10_buyer_109 : decode cX10_buyer 109 = .ok (.bipush 10, 2) := by decide +kernel
theorem dX10_buyer_111 : decode cX10_buyer 111 = .ok (.irem, 1) := by decide +kernel
theorem dX10_buyer_112 : decode cX10_buyer 112 = .ok (.iastore, 1) := by decide +kernel
theorem dX10_buyer_113 : decode cX10_buyer 113 = .ok (.aload_n 0, 1) := by decide +kernel
theorem dX10_buyer_114 : decode cX10_buyer 114 = .ok (.dup, 1) := by decide +kernel
theorem dX10_buyer_115 : decode cX10_buyer 115 = .ok (.getfield 103, 3) := by decide +kernel
theorem dX10_buyer_118 : decode cX10_buyer 118 = .ok (.iconst 1, 1) := by decide +kernel
theorem dX10_buyer_119 : decode cX10_buyer 119 = .ok (.iadd, 1) := by decide +kernel
theorem dX10_buyer_120 : decode cX10_buyer 120 = .ok (.putfield 103, 3) := by decide +kernel
theorem dX10_buyer_123 : decode cX10_buyer 123 = .ok (.aload_n 0, 1) := by decide +kernel
theorem dX10_buyer_124 : decode cX10_buyer 124 = .ok (.getfield 103, 3) := by decide +kernel
theorem dX10_buyer_127 : decode cX10_buyer 127 = .ok (.iconst 1, 1) := by decide +kernel
theorem dX10_buyer_128 : decode cX10_buyer 128 = .ok (.isub, 1) := by decide +kernel
theorem dX10_buyer_129 : decode cX10_buyer 129 = .ok (.ireturn, 1) := by decide +kernel
theorem dX10_thing_0 : decode cX10_thing 0 = .ok (.iload_n 1, 1) := by decide +kernel
theorem dX10_thing_1 : decode cX10_thing 1 = .ok (.i2l, 1) := by decide +kernel
theorem dX10_thing_2 : decode cX10_thing 2 = .ok (.lconst 0, 1) := by decide +kernel
theorem dX10_thing_3 : decode cX10_thing 3 = .ok (.ldc2_w 122, 3) := by decide +kernel
theorem dX10_thing_6 : decode cX10_thing 6 = .ok (.invokestatic 106, 3) := by decide +kernel
theorem dX10_thing_9 : decode cX10_thing 9 = .ok (.ifCond .eq 15, 3) := by decide +kernel
theorem dX10_thing_12 : decode cX10_thing 12 = .ok (.iload_n 2, 1) := by decide +kernel
theorem dX10_thing_13 : decode cX10_thing 13 = .ok (.i2l, 1) := by decide +kernel
theorem dX10_thing_14 : decode cX10_thing 14 = .ok (.lconst 0, 1) := by decide +kernel
theorem dX10_thing_15 : decode cX10_thing 15 = .ok (.ldc2_w 120, 3) := by decide +kernel
theorem dX10_thing_18 : decode cX10_thing 18 = .ok (.invokestatic 106, 3) := by decide +kernel
theorem dX10_thing_21 : decode cX10_thing 21 = .ok (.ifCond .ne 6, 3) := by decide +kernel
theorem dX10_thing_24 : decode cX10_thing 24 = .ok (.bipush (-2), 2) := by decide +kernel
theorem dX10_thing_26 : decode cX10_thing 26 = .ok (.ireturn, 1) := by decide +kernel
theorem dX10_thing_27 : decode cX10_thing 27 = .ok (.aload_n 0, 1) := by decide +kernel
theorem dX10_thing_28 : decode cX10_thing 28 = .ok (.getfield 110, 3) := by decide +kernel
theorem dX10_thing_31 : decode cX10_thing 31 = .ok (.bipush 7, 2) := by decide +kernel
theorem dX10_thing_33 : decode cX10_thing 33 = .ok (.if_icmp .ne 6, 3) := by decide +kernel
theorem dX10_thing_36 : decode cX10_thing 36 = .ok (.bipush (-4), 2) := by decide +kernel
theorem dX10_thing_38 : decode cX10_thing 38 = .ok (.ireturn, 1) := by decide +kernel
theorem dX10_thing_39 : decode cX10_thing 39 = .ok (.aload_n 0, 1) := by decide +kernel
theorem dX10_thing_40 : decode cX10_thing 40 = .ok (.getfield 38, 3) := by decide +kernel
theorem dX10_thing_43 : decode cX10_thing 43 = .ok (.aload_n 0, 1) := by decide +kernel
theorem dX10_thing_44 : decode cX10_thing 44 = .ok (.getfield 110, 3) := by decide +kernel
theorem dX10_thing_47 : decode cX10_thing 47 = .ok (.iload_n 1, 1) := by decide +kernel
theorem dX10_thing_48 : decode cX10_thing 48 = .ok (.iastore, 1) := by decide +kernel
theorem dX10_thing_49 : decode cX10_thing 49 = .ok (.aload_n 0, 1) := by decide +kernel
theorem dX10_thing_50 : decode cX10_thing 50 = .ok (.getfield 41, 3) := by decide +kernel
theorem dX10_thing_53 : decode cX10_thing 53 = .ok (.aload_n 0, 1) := by decide +kernel
theorem dX10_thing_54 : decode cX10_thing 54 = .ok (.getfield 110, 3) := by decide +kernel
theorem dX10_thing_57 : decode cX10_thing 57 = .ok (.iload_n 2, 1) := by decide +kernel
theorem dX10_thing_58 : decode cX10_thing 58 = .ok (.iastore, 1) := by decide +kernel
theorem dX10_thing_59 : decode cX10_thing 59 = .ok (.aload_n 0, 1) := by decide +kernel
theorem dX10_thing_60 : decode cX10_thing 60 = .ok (.getfield 44, 3) := by decide +kernel
theorem dX10_thing_63 : decode cX10_thing 63 = .ok (.aload_n 0, 1) := by decide +kernel
theorem dX10_thing_64 : decode cX10_thing 64 = .ok (.getfield 110, 3) := by decide +kernel
theorem dX10_thing_67 : decode cX10_thing 67 = .ok (.iconst (-1), 1) := by decide +kernel
theorem dX10_thing_68 : decode cX10_thing 68 = .ok (.iastore, 1) := by decide +kernel
theorem dX10_thing_69 : decode cX10_thing 69 = .ok (.aload_n 0, 1) := by decide +kernel
theorem dX10_thing_70 : decode cX10_thing 70 = .ok (.dup, 1) := by decide +kernel
theorem dX10_thing_71 : decode cX10_thing 71 = .ok (.getfield 110, 3) := by decide +kernel
theorem dX10_thing_74 : decode cX10_thing 74 = .ok (.iconst 1, 1) := by decide +kernel
theorem dX10_thing_75 : decode cX10_thing 75 = .ok (.iadd, 1) := by decide +kernel
theorem dX10_thing_76 : decode cX10_thing 76 = .ok (.putfield 110, 3) := by decide +kernel
theorem dX10_thing_79 : decode cX10_thing 79 = .ok (.aload_n 0, 1) := by decide +kernel
theorem dX10_thing_80 : decode cX10_thing 80 = .ok (.getfield 110, 3) := by decide +kernel
theorem dX10_thing_83 : decode cX10_thing 83 = .ok (.iconst 1, 1) := by decide +kernel
theorem dX10_thing_84 : decode cX10_thing 84 = .ok (.isub, 1) := by decide +kernel
theorem dX10_thing_85 : decode cX10_thing 85 = .ok (.ireturn, 1) := by decide +kernel
theorem dX10_set_0 : decode cX10_set 0 = .ok (.iload_n 1, 1) := by decide +kernel
theorem dX10_set_1 : decode cX10_set 1 = .ok (.i2l, 1) := by decide +kernel
theorem dX10_set_2 : decode cX10_set 2 = .ok (.lconst 0, 1) := by decide +kernel
theorem dX10_set_3 : decode cX10_set 3 = .ok (.ldc2_w 124, 3) := by decide +kernel
theorem dX10_set_6 : decode cX10_set 6 = .ok (.invokestatic 106, 3) := by decide +kernel
theorem dX10_set_9 : decode cX10_set 9 = .ok (.ifCond .ne 6, 3) := by decide +kernel
theorem dX10_set_12 : decode cX10_set 12 = .ok (.bipush (-2), 2) := by decide +kernel
theorem dX10_set_14 : decode cX10_set 14 = .ok (.ireturn, 1) := by decide +kernel
theorem dX10_set_15 : decode cX10_set 15 = .ok (.iload_n 1, 1) := by decide +kernel
theorem dX10_set_16 : decode cX10_set 16 = .ok (.iconst 4, 1) := by decide +kernel
theorem dX10_set_17 : decode cX10_set 17 = .ok (.if_icmp .ne 32, 3) := by decide +kernel
theorem dX10_set_20 : decode cX10_set 20 = .ok (.iload_n 3, 1) := by decide +kernel
theorem dX10_set_21 : decode cX10_set 21 = .ok (.i2l, 1) := by decide +kernel
theorem dX10_set_22 : decode cX10_set 22 = .ok (.lconst 0, 1) := by decide +kernel
theorem dX10_set_23 : decode cX10_set 23 = .ok (.ldc2_w 126, 3) := by decide +kernel
theorem dX10_set_26 : decode cX10_set 26 = .ok (.invokestatic 106, 3) := by decide +kernel
theorem dX10_set_29 : decode cX10_set 29 = .ok (.ifCond .ne 6, 3) := by decide +kernel
theorem dX10_set_32 : decode cX10_set 32 = .ok (.bipush (-2), 2) := by decide +kernel
theorem dX10_set_34 : decode cX10_set 34 = .ok (.ireturn, 1) := by decide +kernel
theorem dX10_set_35 : decode cX10_set 35 = .ok (.aload_n 0, 1) := by decide +kernel
theorem dX10_set_36 : decode cX10_set 36 = .ok (.getfield 47, 3) := by decide +kernel
theorem dX10_set_39 : decode cX10_set 39 = .ok (.istore 4, 2) := by decide +kernel
theorem dX10_set_41 : decode cX10_set 41 = .ok (.aload_n 0, 1) := by decide +kernel
theorem dX10_set_42 : decode cX10_set 42 = .ok (.iload_n 3, 1) := by decide +kernel
theorem dX10_set_43 : decode cX10_set 43 = .ok (.putfield 47, 3) := by decide +kernel
theorem dX10_set_46 : decode cX10_set 46 = .ok (.iload 4, 2) := by decide +kernel
theorem dX10_set_48 : decode cX10_set 48 = .ok (.ireturn, 1) := by decide +kernel
theorem dX10_set_49 : decode cX10_set 49 = .ok (.iload_n 1, 1) := by decide +kernel
theorem dX10_set_50 : decode cX10_set 50 = .ok (.iconst 3, 1) := by decide +kernel
theorem dX10_set_51 : decode cX10_set 51 = .ok (.if_icmp .ne 45, 3) := by decide +kernel
theorem dX10_set_54 : decode cX10_set 54 = .ok (.aload_n 0, 1) := by decide +kernel
theorem dX10_set_55 : decode cX10_set 55 = .ok (.iload_n 2, 1) := by decide +kernel
theorem dX10_set_56 : decode cX10_set 56 = .ok (.invokevirtual 128, 3) := by decide +kernel
theorem dX10_set_59 : decode cX10_set 59 = .ok (.ifCond .eq 16, 3) := by decide +kernel
theorem dX10_set_62 : decode cX10_set 62 = .ok (.iload_n 3, 1) := by decide +kernel
theorem dX10_set_63 : decode cX10_set 63 = .ok (.iconst (-1), 1) := by decide +kernel
theorem dX10_set_64 : decode cX10_set 64 = .ok (.if_icmp .eq 14, 3) := by decide +kernel
theorem dX10_set_67 : decode cX10_set 67 = .ok (.aload_n 0, 1) := by decide +kernel
theorem dX10_set_68 : decode cX10_set 68 = .ok (.iload_n 3, 1) := by decide +kernel
theorem dX10_set_69 : decode cX10_set 69 = .ok (.invokevirtual 132, 3) := by decide +kernel
theorem dX10_set_72 : decode cX10_set 72 = .ok (.ifCond .ne 6, 3) := by decide +kernel
theorem dX10_set_75 : decode cX10_set 75 = .ok (.bipush (-2), 2) := by decide +kernel
theorem dX10_set_77 : decode cX10_set 77 = .ok (.ireturn, 1) := by decide +kernel
theorem dX10_set_78 : decode cX10_set 78 = .ok (.aload_n 0, 1) := by decide +kernel
theorem dX10_set_79 : decode cX10_set 79 = .ok (.getfield 44, 3) := by decide +kernel
theorem dX10_set_82 : decode cX10_set 82 = .ok (.iload_n 2, 1) := by decide +kernel
theorem dX10_set_83 : decode cX10_set 83 = .ok (.iaload, 1) := by decide +kernel
theorem dX10_set_84 : decode cX10_set 84 = .ok (.istore 4, 2) := by decide +kernel
theorem dX10_set_86 : decode cX10_set 86 = .ok (.aload_n 0, 1) := by decide +kernel
theorem dX10_set_87 : decode cX10_set 87 = .ok (.getfield 44, 3) := by decide +kernel
theorem dX10_set_90 : decode cX10_set 90 = .ok (.iload_n 2, 1) := by decide +kernel
theorem dX10_set_91 : decode cX10_set 91 = .ok (.iload_n 3, 1) := by decide +kernel
theorem dX10_set_92 : decode cX10_set 92 = .ok (.iastore, 1) := by decide +kernel
theorem dX10_set_93 : decode cX10_set 93 = .ok (.iload 4, 2) := by decide +kernel
theorem dX10_set_95 : decode cX10_set 95 = .ok (.ireturn, 1) := by decide +kernel
theorem dX10_set_96 : decode cX10_set 96 = .ok (.aload_n 0, 1) := by decide +kernel
theorem dX10_set_97 : decode cX10_set 97 = .ok (.iload_n 2, 1) := by decide +kernel
theorem dX10_set_98 : decode cX10_set 98 = .ok (.invokevirtual 132, 3) := by decide +kernel
theorem dX10_set_101 : decode cX10_set 101 = .ok (.ifCond .eq 26, 3) := by decide +kernel
theorem dX10_set_104 : decode cX10_set 104 = .ok (.iload_n 3, 1) := by decide +kernel
theorem dX10_set_105 : decode cX10_set 105 = .ok (.i2l, 1) := by decide +kernel
theorem dX10_set_106 : decode cX10_set 106 = .ok (.lconst 0, 1) := by decide +kernel
theorem dX10_set_107 : decode cX10_set 107 = .ok (.iload_n 1, 1) := by decide +kernel
theorem dX10_set_108 : decode cX10_set 108 = .ok (.iconst 2, 1) := by decide +kernel
theorem dX10_set_109 : decode cX10_set 109 = .ok (.if_icmp .ne 9, 3) := by decide +kernel
theorem dX10_set_112 : decode cX10_set 112 = .ok (.ldc2_w 135, 3) := by decide +kernel
theorem dX10_set_115 : decode cX10_set 115 = .ok (.goto 6, 3) := by decide +kernel
theorem dX10_set_118 : decode cX10_set 118 = .ok (.ldc2_w 137, 3) := by decide +kernel
theorem dX10_set_121 : decode cX10_set 121 = .ok (.invokestatic 106, 3) := by decide +kernel
theorem dX10_set_124 : decode cX10_set 124 = .ok (.ifCond .ne 6, 3) := by decide +kernel
theorem dX10_set_127 : decode cX10_set 127 = .ok (.bipush (-2), 2) := by decide +kernel
theorem dX10_set_129 : decode cX10_set 129 = .ok (.ireturn, 1) := by decide +kernel
theorem dX10_set_130 : decode cX10_set 130 = .ok (.iload_n 1, 1) := by decide +kernel
theorem dX10_set_131 : decode cX10_set 131 = .ok (.ifCond .ne 12, 3) := by decide +kernel
theorem dX10_set_134 : decode cX10_set 134 = .ok (.aload_n 0, 1) := by decide +kernel
theorem dX10_set_135 : decode cX10_set 135 = .ok (.getfield 29, 3) := by decide +kernel
theorem dX10_set_138 : decode cX10_set 138 = .ok (.iload_n 2, 1) := by decide +kernel
theorem dX10_set_139 : decode cX10_set 139 = .ok (.iaload, 1) := by decide +kernel
theorem dX10_set_140 : decode cX10_set 140 = .ok (.goto 23, 3) := by decide +kernel
theorem dX10_set_143 : decode cX10_set 143 = .ok (.iload_n 1, 1) := by decide +kernel
theorem dX10_set_144 : decode cX10_set 144 = .ok (.iconst 1, 1) := by decide +kernel
theorem dX10_set_145 : decode cX10_set 145 = .ok (.if_icmp .ne 12, 3) := by decide +kernel
theorem dX10_set_148 : decode cX10_set 148 = .ok (.aload_n 0, 1) := by decide +kernel
theorem dX10_set_149 : decode cX10_set 149 = .ok (.getfield 32, 3) := by decide +kernel
theorem dX10_set_152 : decode cX10_set 152 = .ok (.iload_n 2, 1) := by decide +kernel
theorem dX10_set_153 : decode cX10_set 153 = .ok (.iaload, 1) := by decide +kernel
theorem dX10_set_154 : decode cX10_set 154 = .ok (.goto 9, 3) := by decide +kernel
theorem dX10_set_157 : decode cX10_set 157 = .ok (.aload_n 0, 1) := by decide +kernel
theorem dX10_set_158 : decode cX10_set 158 = .ok (.getfield 26, 3) := by decide +kernel
theorem dX10_set_161 : decode cX10_set 161 = .ok (.iload_n 2, 1) := by decide +kernel
theorem dX10_set_162 : decode cX10_set 162 = .ok (.iaload, 1) := by decide +kernel
theorem dX10_set_163 : decode cX10_set 163 = .ok (.istore 4, 2) := by decide +kernel
theorem dX10_set_165 : decode cX10_set 165 = .ok (.iload_n 1, 1) := by decide +kernel
theorem dX10_set_166 : decode cX10_set 166 = .ok (.ifCond .ne 13, 3) := by decide +kernel
theorem dX10_set_169 : decode cX10_set 169 = .ok (.aload_n 0, 1) := by decide +kernel
theorem dX10_set_170 : decode cX10_set 170 = .ok (.getfield 29, 3) := by decide +kernel
theorem dX10_set_173 : decode cX10_set 173 = .ok (.iload_n 2, 1) := by decide +kernel
theorem dX10_set_174 : decode cX10_set 174 = .ok (.iload_n 3, 1) := by decide +kernel
theorem dX10_set_175 : decode cX10_set 175 = .ok (.iastore, 1) := by decide +kernel
theorem dX10_set_176 : decode cX10_set 176 = .ok (.goto 25, 3) := by decide +kernel
theorem dX10_set_179 : decode cX10_set 179 = .ok (.iload_n 1, 1) := by decide +kernel
theorem dX10_set_180 : decode cX10_set 180 = .ok (.iconst 1, 1) := by decide +kernel
theorem dX10_set_181 : decode cX10_set 181 = .ok (.if_icmp .ne 13, 3) := by decide +kernel
theorem dX10_set_184 : decode cX10_set 184 = .ok (.aload_n 0, 1) := by decide +kernel
theorem dX10_set_185 : decode cX10_set 185 = .ok (.getfield 32, 3) := by decide +kernel
theorem dX10_set_188 : decode cX10_set 188 = .ok (.iload_n 2, 1) := by decide +kernel
theorem dX10_set_189 : decode cX10_set 189 = .ok (.iload_n 3, 1) := by decide +kernel
theorem dX10_set_190 : decode cX10_set 190 = .ok (.iastore, 1) := by decide +kernel
theorem dX10_set_191 : decode cX10_set 191 = .ok (.goto 10, 3) := by decide +kernel
theorem dX10_set_194 : decode cX10_set 194 = .ok (.aload_n 0, 1) := by decide +kernel
theorem dX10_set_195 : decode cX10_set 195 = .ok (.getfield 26, 3) := by decide +kernel
theorem dX10_set_198 : decode cX10_set 198 = .ok (.iload_n 2, 1) := by decide +kernel
theorem dX10_set_199 : decode cX10_set 199 = .ok (.iload_n 3, 1) := by decide +kernel
theorem dX10_set_200 : decode cX10_set 200 = .ok (.iastore, 1) := by decide +kernel
theorem dX10_set_201 : decode cX10_set 201 = .ok (.iload 4, 2) := by decide +kernel
theorem dX10_set_203 : decode cX10_set 203 = .ok (.ireturn, 1) := by decide +kernel
theorem dX10_pence_0 : decode cX10_pence 0 = .ok (.aload_n 0, 1) := by decide +kernel
theorem dX10_pence_1 : decode cX10_pence 1 = .ok (.getfield 23, 3) := by decide +kernel
theorem dX10_pence_4 : decode cX10_pence 4 = .ok (.iload_n 1, 1) := by decide +kernel
theorem dX10_pence_5 : decode cX10_pence 5 = .ok (.iaload, 1) := by decide +kernel
theorem dX10_pence_6 : decode cX10_pence 6 = .ok (.istore 4, 2) := by decide +kernel
theorem dX10_pence_8 : decode cX10_pence 8 = .ok (.iload_n 2, 1) := by decide +kernel
theorem dX10_pence_9 : decode cX10_pence 9 = .ok (.istore 5, 2) := by decide +kernel
theorem dX10_pence_11 : decode cX10_pence 11 = .ok (.iload 4, 2) := by decide +kernel
theorem dX10_pence_13 : decode cX10_pence 13 = .ok (.iconst 1, 1) := by decide +kernel
theorem dX10_pence_14 : decode cX10_pence 14 = .ok (.if_icmp .eq 15, 3) := by decide +kernel
theorem dX10_pence_17 : decode cX10_pence 17 = .ok (.iload 4, 2) := by decide +kernel
theorem dX10_pence_19 : decode cX10_pence 19 = .ok (.iconst 3, 1) := by decide +kernel
theorem dX10_pence_20 : decode cX10_pence 20 = .ok (.if_icmp .eq 9, 3) := by decide +kernel
theorem dX10_pence_23 : decode cX10_pence 23 = .ok (.iload 4, 2) := by decide +kernel
theorem dX10_pence_25 : decode cX10_pence 25 = .ok (.iconst 4, 1) := by decide +kernel
theorem dX10_pence_26 : decode cX10_pence 26 = .ok (.if_icmp .ne 53, 3) := by decide +kernel
theorem dX10_pence_29 : decode cX10_pence 29 = .ok (.iload_n 2, 1) := by decide +kernel
theorem dX10_pence_30 : decode cX10_pence 30 = .ok (.iconst 3, 1) := by decide +kernel
theorem dX10_pence_31 : decode cX10_pence 31 = .ok (.if_icmp .ge 7, 3) := by decide +kernel
theorem dX10_pence_34 : decode cX10_pence 34 = .ok (.iconst 3, 1) := by decide +kernel
theorem dX10_pence_35 : decode cX10_pence 35 = .ok (.goto 4, 3) := by decide +kernel
theorem dX10_pence_38 : decode cX10_pence 38 = .ok (.iload_n 2, 1) := by decide +kernel
theorem dX10_pence_39 : decode cX10_pence 39 = .ok (.istore 5, 2) := by decide +kernel
theorem dX10_pence_41 : decode cX10_pence 41 = .ok (.iload 4, 2) := by decide +kernel
theorem dX10_pence_43 : decode cX10_pence 43 = .ok (.iconst 3, 1) := by decide +kernel
theorem dX10_pence_44 : decode cX10_pence 44 = .ok (.if_icmp .ne 9, 3) := by decide +kernel
theorem dX10_pence_47 : decode cX10_pence 47 = .ok (.iload 5, 2) := by decide +kernel
theorem dX10_pence_49 : decode cX10_pence 49 = .ok (.iconst 2, 1) := by decide +kernel
theorem dX10_pence_50 : decode cX10_pence 50 = .ok (.imul, 1) := by decide +kernel
theorem dX10_pence_51 : decode cX10_pence 51 = .ok (.istore 5, 2) := by decide +kernel
theorem dX10_pence_53 : decode cX10_pence 53 = .ok (.iload 4, 2) := by decide +kernel
theorem dX10_pence_55 : decode cX10_pence 55 = .ok (.iconst 4, 1) := by decide +kernel
theorem dX10_pence_56 : decode cX10_pence 56 = .ok (.if_icmp .ne 65, 3) := by decide +kernel
theorem dX10_pence_59 : decode cX10_pence 59 = .ok (.iload_n 3, 1) := by decide +kernel
theorem dX10_pence_60 : decode cX10_pence 60 = .ok (.iconst 4, 1) := by decide +kernel
theorem dX10_pence_61 : decode cX10_pence 61 = .ok (.irem, 1) := by decide +kernel
theorem dX10_pence_62 : decode cX10_pence 62 = .ok (.aload_n 0, 1) := by decide +kernel
theorem dX10_pence_63 : decode cX10_pence 63 = .ok (.getfield 35, 3) := by decide +kernel
theorem dX10_pence_66 : decode cX10_pence 66 = .ok (.iload_n 1, 1) := by decide +kernel
theorem dX10_pence_67 : decode cX10_pence 67 = .ok (.iaload, 1) := by decide +kernel
theorem dX10_pence_68 : decode cX10_pence 68 = .ok (.iconst 4, 1) := by decide +kernel
theorem dX10_pence_69 : decode cX10_pence 69 = .ok (.irem, 1) := by decide +kernel
theorem dX10_pence_70 : decode cX10_pence 70 = .ok (.if_icmp .ne 51, 3) := by decide +kernel
theorem dX10_pence_73 : decode cX10_pence 73 = .ok (.iinc 5 1, 3) := by decide +kernel
theorem dX10_pence_76 : decode cX10_pence 76 = .ok (.goto 45, 3) := by decide +kernel
theorem dX10_pence_79 : decode cX10_pence 79 = .ok (.iload 4, 2) := by decide +kernel
theorem dX10_pence_81 : decode cX10_pence 81 = .ok (.ifCond .eq 40, 3) := by decide +kernel
theorem dX10_pence_84 : decode cX10_pence 84 = .ok (.iload_n 2, 1) := by decide +kernel
theorem dX10_pence_85 : decode cX10_pence 85 = .ok (.bipush 60, 2) := by decide +kernel
theorem dX10_pence_87 : decode cX10_pence 87 = .ok (.if_icmp .le 14, 3) := by decide +kernel
theorem dX10_pence_90 : decode cX10_pence 90 = .ok (.iload_n 2, 1) := by decide +kernel
theorem dX10_pence_91 : decode cX10_pence 91 = .ok (.iload_n 2, 1) := by decide +kernel
theorem dX10_pence_92 : decode cX10_pence 92 = .ok (.bipush 60, 2) := by decide +kernel
theorem dX10_pence_94 : decode cX10_pence 94 = .ok (.isub, 1) := by decide +kernel
theorem dX10_pence_95 : decode cX10_pence 95 = .ok (.iconst 2, 1) := by decide +kernel
theorem dX10_pence_96 : decode cX10_pence 96 = .ok (.idiv, 1) := by decide +kernel
theorem dX10_pence_97 : decode cX10_pence 97 = .ok (.isub, 1) := by decide +kernel
theorem dX10_pence_98 : decode cX10_pence 98 = .ok (.goto 4, 3) := by decide +kernel
theorem dX10_pence_101 : decode cX10_pence 101 = .ok (.iload_n 2, 1) := by decide +kernel
theorem dX10_pence_102 : decode cX10_pence 102 = .ok (.istore 5, 2) := by decide +kernel
theorem dX10_pence_104 : decode cX10_pence 104 = .ok (.iload 4, 2) := by decide +kernel
theorem dX10_pence_106 : decode cX10_pence 106 = .ok (.iconst 5, 1) := by decide +kernel
theorem dX10_pence_107 : decode cX10_pence 107 = .ok (.if_icmp .ne 14, 3) := by decide +kernel
theorem dX10_pence_110 : decode cX10_pence 110 = .ok (.iload 5, 2) := by decide +kernel
theorem dX10_pence_112 : decode cX10_pence 112 = .ok (.aload_n 0, 1) := by decide +kernel
theorem dX10_pence_113 : decode cX10_pence 113 = .ok (.getfield 35, 3) := by decide +kernel
theorem dX10_pence_116 : decode cX10_pence 116 = .ok (.iload_n 1, 1) := by decide +kernel
theorem dX10_pence_117 : decode cX10_pence 117 = .ok (.iaload, 1) := by decide +kernel
theorem dX10_pence_118 : decode cX10_pence 118 = .ok (.isub, 1) := by decide +kernel
theorem dX10_pence_119 : decode cX10_pence 119 = .ok (.istore 5, 2) := by decide +kernel
theorem dX10_pence_121 : decode cX10_pence 121 = .ok (.iload 5, 2) := by decide +kernel
theorem dX10_pence_123 : decode cX10_pence 123 = .ok (.ifCond .ge 7, 3) := by decide +kernel
theorem dX10_pence_126 : decode cX10_pence 126 = .ok (.iconst 0, 1) := by decide +kernel
theorem dX10_pence_127 : decode cX10_pence 127 = .ok (.goto 5, 3) := by decide +kernel
theorem dX10_pence_130 : decode cX10_pence 130 = .ok (.iload 5, 2) := by decide +kernel
theorem dX10_pence_132 : decode cX10_pence 132 = .ok (.ireturn, 1) := by decide +kernel
theorem dX10_asks_0 : decode cX10_asks 0 = .ok (.aload_n 0, 1) := by decide +kernel
theorem dX10_asks_1 : decode cX10_asks 1 = .ok (.getfield 23, 3) := by decide +kernel
theorem dX10_asks_4 : decode cX10_asks 4 = .ok (.iload_n 1, 1) := by decide +kernel
theorem dX10_asks_5 : decode cX10_asks 5 = .ok (.iaload, 1) := by decide +kernel
theorem dX10_asks_6 : decode cX10_asks 6 = .ok (.istore_n 2, 1) := by decide +kernel
theorem dX10_asks_7 : decode cX10_asks 7 = .ok (.aload_n 0, 1) := by decide +kernel
theorem dX10_asks_8 : decode cX10_asks 8 = .ok (.getfield 32, 3) := by decide +kernel
theorem dX10_asks_11 : decode cX10_asks 11 = .ok (.iload_n 1, 1) := by decide +kernel
theorem dX10_asks_12 : decode cX10_asks 12 = .ok (.iaload, 1) := by decide +kernel
theorem dX10_asks_13 : decode cX10_asks 13 = .ok (.istore_n 3, 1) := by decide +kernel
theorem dX10_asks_14 : decode cX10_asks 14 = .ok (.iload_n 2, 1) := by decide +kernel
theorem dX10_asks_15 : decode cX10_asks 15 = .ok (.iconst 1, 1) := by decide +kernel
theorem dX10_asks_16 : decode cX10_asks 16 = .ok (.if_icmp .eq 8, 3) := by decide +kernel
theorem dX10_asks_19 : decode cX10_asks 19 = .ok (.iload_n 2, 1) := by decide +kernel
theorem dX10_asks_20 : decode cX10_asks 20 = .ok (.iconst 4, 1) := by decide +kernel
theorem dX10_asks_21 : decode cX10_asks 21 = .ok (.if_icmp .ne 7, 3) := by decide +kernel
theorem dX10_asks_24 : decode cX10_asks 24 = .ok (.iload_n 3, 1) := by decide +kernel
theorem dX10_asks_25 : decode cX10_asks 25 = .ok (.iconst 2, 1) := by decide +kernel
theorem dX10_asks_26 : decode cX10_asks 26 = .ok (.idiv, 1) := by decide +kernel
theorem dX10_asks_27 : decode cX10_asks 27 = .ok (.ireturn, 1) := by decide +kernel
theorem dX10_asks_28 : decode cX10_asks 28 = .ok (.iload_n 2, 1) := by decide +kernel
theorem dX10_asks_29 : decode cX10_asks 29 = .ok (.iconst 3, 1) := by decide +kernel
theorem dX10_asks_30 : decode cX10_asks 30 = .ok (.if_icmp .ne 9, 3) := by decide +kernel
theorem dX10_asks_33 : decode cX10_asks 33 = .ok (.iload_n 3, 1) := by decide +kernel
theorem dX10_asks_34 : decode cX10_asks 34 = .ok (.iconst 2, 1) := by decide +kernel
theorem dX10_asks_35 : decode cX10_asks 35 = .ok (.idiv, 1) := by decide +kernel
theorem dX10_asks_36 : decode cX10_asks 36 = .ok (.iconst 5, 1) := by decide +kernel
theorem dX10_asks_37 : decode cX10_asks 37 = .ok (.iadd, 1) := by decide +kernel
theorem dX10_asks_38 : decode cX10_asks 38 = .ok (.ireturn, 1) := by decide +kernel
theorem dX10_asks_39 : decode cX10_asks 39 = .ok (.iload_n 2, 1) := by decide +kernel
theorem dX10_asks_40 : decode cX10_asks 40 = .ok (.iconst 5, 1) := by decide +kernel
theorem dX10_asks_41 : decode cX10_asks 41 = .ok (.if_icmp .ne 16, 3) := by decide +kernel
theorem dX10_asks_44 : decode cX10_asks 44 = .ok (.iconst 2, 1) := by decide +kernel
theorem dX10_asks_45 : decode cX10_asks 45 = .ok (.iload_n 3, 1) := by decide +kernel
theorem dX10_asks_46 : decode cX10_asks 46 = .ok (.imul, 1) := by decide +kernel
theorem dX10_asks_47 : decode cX10_asks 47 = .ok (.aload_n 0, 1) := by decide +kernel
theorem dX10_asks_48 : decode cX10_asks 48 = .ok (.getfield 35, 3) := by decide +kernel
theorem dX10_asks_51 : decode cX10_asks 51 = .ok (.iload_n 1, 1) := by decide +kernel
theorem dX10_asks_52 : decode cX10_asks 52 = .ok (.iaload, 1) := by decide +kernel
theorem dX10_asks_53 : decode cX10_asks 53 = .ok (.iadd, 1) := by decide +kernel
theorem dX10_asks_54 : decode cX10_asks 54 = .ok (.goto 4, 3) := by decide +kernel
theorem dX10_asks_57 : decode cX10_asks 57 = .ok (.iload_n 3, 1) := by decide +kernel
theorem dX10_asks_58 : decode cX10_asks 58 = .ok (.ireturn, 1) := by decide +kernel
theorem dX10_told_0 : decode cX10_told 0 = .ok (.iload_n 2, 1) := by decide +kernel
theorem dX10_told_1 : decode cX10_told 1 = .ok (.i2l, 1) := by decide +kernel
theorem dX10_told_2 : decode cX10_told 2 = .ok (.lconst 0, 1) := by decide +kernel
theorem dX10_told_3 : decode cX10_told 3 = .ok (.ldc2_w 139, 3) := by decide +kernel
theorem dX10_told_6 : decode cX10_told 6 = .ok (.invokestatic 106, 3) := by decide +kernel
theorem dX10_told_9 : decode cX10_told 9 = .ok (.ifCond .eq 31, 3) := by decide +kernel
theorem dX10_told_12 : decode cX10_told 12 = .ok (.iload_n 2, 1) := by decide +kernel
theorem dX10_told_13 : decode cX10_told 13 = .ok (.bipush 7, 2) := by decide +kernel
theorem dX10_told_15 : decode cX10_told 15 = .ok (.if_icmp .ge 11, 3) := by decide +kernel
theorem dX10_told_18 : decode cX10_told 18 = .ok (.aload_n 0, 1) := by decide +kernel
theorem dX10_told_19 : decode cX10_told 19 = .ok (.iload_n 1, 1) := by decide +kernel
theorem dX10_told_20 : decode cX10_told 20 = .ok (.invokevirtual 132, 3) := by decide +kernel
theorem dX10_told_23 : decode cX10_told 23 = .ok (.ifCond .eq 17, 3) := by decide +kernel
theorem dX10_told_26 : decode cX10_told 26 = .ok (.iload_n 2, 1) := by decide +kernel
theorem dX10_told_27 : decode cX10_told 27 = .ok (.bipush 7, 2) := by decide +kernel
theorem dX10_told_29 : decode cX10_told 29 = .ok (.if_icmp .lt 14, 3) := by decide +kernel
theorem dX10_told_32 : decode cX10_told 32 = .ok (.aload_n 0, 1) := by decide +kernel
theorem dX10_told_33 : decode cX10_told 33 = .ok (.iload_n 1, 1) := by decide +kernel
theorem dX10_told_34 : decode cX10_told 34 = .ok (.invokevirtual 128, 3) := by decide +kernel
theorem dX10_told_37 : decode cX10_told 37 = .ok (.ifCond .ne 6, 3) := by decide +kernel
theorem dX10_told_40 : decode cX10_told 40 = .ok (.bipush (-2), 2) := by decide +kernel
theorem dX10_told_42 : decode cX10_told 42 = .ok (.ireturn, 1) := by decide +kernel
theorem dX10_told_43 : decode cX10_told 43 = .ok (.iload_n 2, 1) := by decide +kernel
theorem dX10_told_44 : decode cX10_told 44 = .ok (.iconst 4, 1) := by decide +kernel
theorem dX10_told_45 : decode cX10_told 45 = .ok (.if_icmp .ge 51, 3) := by decide +kernel
theorem dX10_told_48 : decode cX10_told 48 = .ok (.iload_n 2, 1) := by decide +kernel
theorem dX10_told_49 : decode cX10_told 49 = .ok (.ifCond .ne 12, 3) := by decide +kernel
theorem dX10_told_52 : decode cX10_told 52 = .ok (.aload_n 0, 1) := by decide +kernel
theorem dX10_told_53 : decode cX10_told 53 = .ok (.getfield 23, 3) := by decide +kernel
theorem dX10_told_56 : decode cX10_told 56 = .ok (.iload_n 1, 1) := by decide +kernel
theorem dX10_told_57 : decode cX10_told 57 = .ok (.iaload, 1) := by decide +kernel
theorem dX10_told_58 : decode cX10_told 58 = .ok (.goto 37, 3) := by decide +kernel
theorem dX10_told_61 : decode cX10_told 61 = .ok (.iload_n 2, 1) := by decide +kernel
theorem dX10_told_62 : decode cX10_told 62 = .ok (.iconst 1, 1) := by decide +kernel
theorem dX10_told_63 : decode cX10_told 63 = .ok (.if_icmp .ne 12, 3) := by decide +kernel
theorem dX10_told_66 : decode cX10_told 66 = .ok (.aload_n 0, 1) := by decide +kernel
theorem dX10_told_67 : decode cX10_told 67 = .ok (.getfield 29, 3) := by decide +kernel
theorem dX10_told_70 : decode cX10_told 70 = .ok (.iload_n 1, 1) := by decide +kernel
theorem dX10_told_71 : decode cX10_told 71 = .ok (.iaload, 1) := by decide +kernel
theorem dX10_told_72 : decode cX10_told 72 = .ok (.goto 23, 3) := by decide +kernel
theorem dX10_told_75 : decode cX10_told 75 = .ok (.iload_n 2, 1) := by decide +kernel
theorem dX10_told_76 : decode cX10_told 76 = .ok (.iconst 2, 1) := by decide +kernel
theorem dX10_told_77 : decode cX10_told 77 = .ok (.if_icmp .ne 12, 3) := by decide +kernel
theorem dX10_told_80 : decode cX10_told 80 = .ok (.aload_n 0, 1) := by decide +kernel
theorem dX10_told_81 : decode cX10_told 81 = .ok (.getfield 26, 3) := by decide +kernel
theorem dX10_told_84 : decode cX10_told 84 = .ok (.iload_n 1, 1) := by decide +kernel
theorem dX10_told_85 : decode cX10_told 85 = .ok (.iaload, 1) := by decide +kernel
theorem dX10_told_86 : decode cX10_told 86 = .ok (.goto 9, 3) := by decide +kernel
theorem dX10_told_89 : decode cX10_told 89 = .ok (.aload_n 0, 1) := by decide +kernel
theorem dX10_told_90 : decode cX10_told 90 = .ok (.getfield 32, 3) := by decide +kernel
theorem dX10_told_93 : decode cX10_told 93 = .ok (.iload_n 1, 1) := by decide +kernel
theorem dX10_told_94 : decode cX10_told 94 = .ok (.iaload, 1) := by decide +kernel
theorem dX10_told_95 : decode cX10_told 95 = .ok (.ireturn, 1) := by decide +kernel
theorem dX10_told_96 : decode cX10_told 96 = .ok (.iload_n 2, 1) := by decide +kernel
theorem dX10_told_97 : decode cX10_told 97 = .ok (.bipush 7, 2) := by decide +kernel
theorem dX10_told_99 : decode cX10_told 99 = .ok (.if_icmp .ge 46, 3) := by decide +kernel
theorem dX10_told_102 : decode cX10_told 102 = .ok (.iload_n 2, 1) := by decide +kernel
theorem dX10_told_103 : decode cX10_told 103 = .ok (.iconst 4, 1) := by decide +kernel
theorem dX10_told_104 : decode cX10_told 104 = .ok (.if_icmp .ne 12, 3) := by decide +kernel
theorem dX10_told_107 : decode cX10_told 107 = .ok (.aload_n 0, 1) := by decide +kernel
theorem dX10_told_108 : decode cX10_told 108 = .ok (.getfield 35, 3) := by decide +kernel
theorem dX10_told_111 : decode cX10_told 111 = .ok (.iload_n 1, 1) := by decide +kernel
theorem dX10_told_112 : decode cX10_told 112 = .ok (.iaload, 1) := by decide +kernel
theorem dX10_told_113 : decode cX10_told 113 = .ok (.goto 31, 3) := by decide +kernel
theorem dX10_told_116 : decode cX10_told 116 = .ok (.iload_n 2, 1) := by decide +kernel
theorem dX10_told_117 : decode cX10_told 117 = .ok (.iconst 5, 1) := by decide +kernel
theorem dX10_told_118 : decode cX10_told 118 = .ok (.if_icmp .ne 21, 3) := by decide +kernel
theorem dX10_told_121 : decode cX10_told 121 = .ok (.aload_n 0, 1) := by decide +kernel
theorem dX10_told_122 : decode cX10_told 122 = .ok (.iload_n 1, 1) := by decide +kernel
theorem dX10_told_123 : decode cX10_told 123 = .ok (.aload_n 0, 1) := by decide +kernel
theorem dX10_told_124 : decode cX10_told 124 = .ok (.getfield 29, 3) := by decide +kernel
theorem dX10_told_127 : decode cX10_told 127 = .ok (.iload_n 1, 1) := by decide +kernel
theorem dX10_told_128 : decode cX10_told 128 = .ok (.iaload, 1) := by decide +kernel
theorem dX10_told_129 : decode cX10_told 129 = .ok (.aload_n 0, 1) := by decide +kernel
theorem dX10_told_130 : decode cX10_told 130 = .ok (.getfield 141, 3) := by decide +kernel
theorem dX10_told_133 : decode cX10_told 133 = .ok (.invokevirtual 144, 3) := by decide +kernel
theorem dX10_told_136 : decode cX10_told 136 = .ok (.goto 8, 3) := by decide +kernel
theorem dX10_told_139 : decode cX10_told 139 = .ok (.aload_n 0, 1) := by decide +kernel
theorem dX10_told_140 : decode cX10_told 140 = .ok (.iload_n 1, 1) := by decide +kernel
theorem dX10_told_141 : decode cX10_told 141 = .ok (.invokevirtual 148, 3) := by decide +kernel
theorem dX10_told_144 : decode cX10_told 144 = .ok (.ireturn, 1) := by decide +kernel
theorem dX10_told_145 : decode cX10_told 145 = .ok (.iload_n 2, 1) := by decide +kernel
theorem dX10_told_146 : decode cX10_told 146 = .ok (.bipush 9, 2) := by decide +kernel
theorem dX10_told_148 : decode cX10_told 148 = .ok (.if_icmp .ge 25, 3) := by decide +kernel
theorem dX10_told_151 : decode cX10_told 151 = .ok (.iload_n 2, 1) := by decide +kernel
theorem dX10_told_152 : decode cX10_told 152 = .ok (.bipush 7, 2) := by decide +kernel
theorem dX10_told_154 : decode cX10_told 154 = .ok (.if_icmp .ne 12, 3) := by decide +kernel
theorem dX10_told_157 : decode cX10_told 157 = .ok (.aload_n 0, 1) := by decide +kernel
theorem dX10_told_158 : decode cX10_told 158 = .ok (.getfield 38, 3) := by decide +kernel
theorem dX10_told_161 : decode cX10_told 161 = .ok (.iload_n 1, 1) := by decide +kernel
theorem dX10_told_162 : decode cX10_told 162 = .ok (.iaload, 1) := by decide +kernel
theorem dX10_told_163 : decode cX10_told 163 = .ok (.goto 9, 3) := by decide +kernel
theorem dX10_told_166 : decode cX10_told 166 = .ok (.aload_n 0, 1) := by decide +kernel
theorem dX10_told_167 : decode cX10_told 167 = .ok (.getfield 41, 3) := by decide +kernel
theorem dX10_told_170 : decode cX10_told 170 = .ok (.iload_n 1, 1) := by decide +kernel
theorem dX10_told_171 : decode cX10_told 171 = .ok (.iaload, 1) := by decide +kernel
theorem dX10_told_172 : decode cX10_told 172 = .ok (.ireturn, 1) := by decide +kernel
theorem dX10_told_173 : decode cX10_told 173 = .ok (.iload_n 2, 1) := by decide +kernel
theorem dX10_told_174 : decode cX10_told 174 = .ok (.bipush 9, 2) := by decide +kernel
theorem dX10_told_176 : decode cX10_told 176 = .ok (.if_icmp .ne 12, 3) := by decide +kernel
theorem dX10_told_179 : decode cX10_told 179 = .ok (.aload_n 0, 1) := by decide +kernel
theorem dX10_told_180 : decode cX10_told 180 = .ok (.getfield 44, 3) := by decide +kernel
theorem dX10_told_183 : decode cX10_told 183 = .ok (.iload_n 1, 1) := by decide +kernel
theorem dX10_told_184 : decode cX10_told 184 = .ok (.iaload, 1) := by decide +kernel
theorem dX10_told_185 : decode cX10_told 185 = .ok (.goto 11, 3) := by decide +kernel
theorem dX10_told_188 : decode cX10_told 188 = .ok (.aload_n 0, 1) := by decide +kernel
theorem dX10_told_189 : decode cX10_told 189 = .ok (.getfield 113, 3) := by decide +kernel
theorem dX10_told_192 : decode cX10_told 192 = .ok (.iload_n 1, 1) := by decide +kernel
theorem dX10_told_193 : decode cX10_told 193 = .ok (.ishr, 1) := by decide +kernel
theorem dX10_told_194 : decode cX10_told 194 = .ok (.iconst 1, 1) := by decide +kernel
theorem dX10_told_195 : decode cX10_told 195 = .ok (.iand, 1) := by decide +kernel
theorem dX10_told_196 : decode cX10_told 196 = .ok (.ireturn, 1) := by decide +kernel
theorem dX10_feed_0 : decode cX10_feed 0 = .ok (.iload_n 1, 1) := by decide +kernel
theorem dX10_feed_1 : decode cX10_feed 1 = .ok (.i2l, 1) := by decide +kernel
theorem dX10_feed_2 : decode cX10_feed 2 = .ok (.lconst 0, 1) := by decide +kernel
theorem dX10_feed_3 : decode cX10_feed 3 = .ok (.ldc2_w 152, 3) := by decide +kernel
theorem dX10_feed_6 : decode cX10_feed 6 = .ok (.invokestatic 106, 3) := by decide +kernel
theorem dX10_feed_9 : decode cX10_feed 9 = .ok (.ifCond .ne 6, 3) := by decide +kernel
theorem dX10_feed_12 : decode cX10_feed 12 = .ok (.bipush (-2), 2) := by decide +kernel
theorem dX10_feed_14 : decode cX10_feed 14 = .ok (.ireturn, 1) := by decide +kernel
theorem dX10_feed_15 : decode cX10_feed 15 = .ok (.aload_n 0, 1) := by decide +kernel
theorem dX10_feed_16 : decode cX10_feed 16 = .ok (.getfield 154, 3) := by decide +kernel
theorem dX10_feed_19 : decode cX10_feed 19 = .ok (.sipush 160, 3) := by decide +kernel
theorem dX10_feed_22 : decode cX10_feed 22 = .ok (.if_icmp .ne 6, 3) := by decide +kernel
theorem dX10_feed_25 : decode cX10_feed 25 = .ok (.bipush (-4), 2) := by decide +kernel
theorem dX10_feed_27 : decode cX10_feed 27 = .ok (.ireturn, 1) := by decide +kernel
theorem dX10_feed_28 : decode cX10_feed 28 = .ok (.aload_n 0, 1) := by decide +kernel
theorem dX10_feed_29 : decode cX10_feed 29 = .ok (.getfield 20, 3) := by decide +kernel
theorem dX10_feed_32 : decode cX10_feed 32 = .ok (.aload_n 0, 1) := by decide +kernel
theorem dX10_feed_33 : decode cX10_feed 33 = .ok (.getfield 154, 3) := by decide +kernel
theorem dX10_feed_36 : decode cX10_feed 36 = .ok (.iload_n 1, 1) := by decide +kernel
theorem dX10_feed_37 : decode cX10_feed 37 = .ok (.iastore, 1) := by decide +kernel
theorem dX10_feed_38 : decode cX10_feed 38 = .ok (.aload_n 0, 1) := by decide +kernel
theorem dX10_feed_39 : decode cX10_feed 39 = .ok (.dup, 1) := by decide +kernel
theorem dX10_feed_40 : decode cX10_feed 40 = .ok (.getfield 154, 3) := by decide +kernel
theorem dX10_feed_43 : decode cX10_feed 43 = .ok (.iconst 1, 1) := by decide +kernel
theorem dX10_feed_44 : decode cX10_feed 44 = .ok (.iadd, 1) := by decide +kernel
theorem dX10_feed_45 : decode cX10_feed 45 = .ok (.putfield 154, 3) := by decide +kernel
theorem dX10_feed_48 : decode cX10_feed 48 = .ok (.aload_n 0, 1) := by decide +kernel
theorem dX10_feed_49 : decode cX10_feed 49 = .ok (.getfield 154, 3) := by decide +kernel
theorem dX10_feed_52 : decode cX10_feed 52 = .ok (.ireturn, 1) := by decide +kernel
theorem dX10_byteAt_0 : decode cX10_byteAt 0 = .ok (.iload_n 1, 1) := by decide +kernel
theorem dX10_byteAt_1 : decode cX10_byteAt 1 = .ok (.aload_n 0, 1) := by decide +kernel
theorem dX10_byteAt_2 : decode cX10_byteAt 2 = .ok (.getfield 157, 3) := by decide +kernel
theorem dX10_byteAt_5 : decode cX10_byteAt 5 = .ok (.if_icmp .ge 17, 3) := by decide +kernel
theorem dX10_byteAt_8 : decode cX10_byteAt 8 = .ok (.aload_n 0, 1) := by decide +kernel
theorem dX10_byteAt_9 : decode cX10_byteAt 9 = .ok (.getfield 13, 3) := by decide +kernel
theorem dX10_byteAt_12 : decode cX10_byteAt 12 = .ok (.aload_n 0, 1) := by decide +kernel
theorem dX10_byteAt_13 : decode cX10_byteAt 13 = .ok (.getfield 160, 3) := by decide +kernel
theorem dX10_byteAt_16 : decode cX10_byteAt 16 = .ok (.iload_n 1, 1) := by decide +kernel
theorem dX10_byteAt_17 : decode cX10_byteAt 17 = .ok (.iadd, 1) := by decide +kernel
theorem dX10_byteAt_18 : decode cX10_byteAt 18 = .ok (.iaload, 1) := by decide +kernel
theorem dX10_byteAt_19 : decode cX10_byteAt 19 = .ok (.goto 4, 3) := by decide +kernel
theorem dX10_byteAt_22 : decode cX10_byteAt 22 = .ok (.iconst (-1), 1) := by decide +kernel
theorem dX10_byteAt_23 : decode cX10_byteAt 23 = .ok (.ireturn, 1) := by decide +kernel
theorem dX10_next_0 : decode cX10_next 0 = .ok (.aload_n 0, 1) := by decide +kernel
theorem dX10_next_1 : decode cX10_next 1 = .ok (.aload_n 0, 1) := by decide +kernel
theorem dX10_next_2 : decode cX10_next 2 = .ok (.getfield 163, 3) := by decide +kernel
theorem dX10_next_5 : decode cX10_next 5 = .ok (.invokevirtual 166, 3) := by decide +kernel
theorem dX10_next_8 : decode cX10_next 8 = .ok (.bipush 32, 2) := by decide +kernel
theorem dX10_next_10 : decode cX10_next 10 = .ok (.if_icmp .eq 16, 3) := by decide +kernel
theorem dX10_next_13 : decode cX10_next 13 = .ok (.aload_n 0, 1) := by decide +kernel
theorem dX10_next_14 : decode cX10_next 14 = .ok (.aload_n 0, 1) := by decide +kernel
theorem dX10_next_15 : decode cX10_next 15 = .ok (.getfield 163, 3) := by decide +kernel
theorem dX10_next_18 : decode cX10_next 18 = .ok (.invokevirtual 166, 3) := by decide +kernel
theorem dX10_next_21 : decode cX10_next 21 = .ok (.bipush 10, 2) := by decide +kernel
theorem dX10_next_23 : decode cX10_next 23 = .ok (.if_icmp .ne 16, 3) := by decide +kernel
theorem dX10_next_26 : decode cX10_next 26 = .ok (.aload_n 0, 1) := by decide +kernel
theorem dX10_next_27 : decode cX10_next 27 = .ok (.dup, 1) := by decide +kernel
theorem dX10_next_28 : decode cX10_next 28 = .ok (.getfield 163, 3) := by decide +kernel
theorem dX10_next_31 : decode cX10_next 31 = .ok (.iconst 1, 1) := by decide +kernel
theorem dX10_next_32 : decode cX10_next 32 = .ok (.iadd, 1) := by decide +kernel
theorem dX10_next_33 : decode cX10_next 33 = .ok (.putfield 163, 3) := by decide +kernel
theorem dX10_next_36 : decode cX10_next 36 = .ok (.goto (-36), 3) := by decide +kernel
theorem dX10_next_39 : decode cX10_next 39 = .ok (.aload_n 0, 1) := by decide +kernel
theorem dX10_next_40 : decode cX10_next 40 = .ok (.aload_n 0, 1) := by decide +kernel
theorem dX10_next_41 : decode cX10_next 41 = .ok (.getfield 163, 3) := by decide +kernel
theorem dX10_next_44 : decode cX10_next 44 = .ok (.putfield 169, 3) := by decide +kernel
theorem dX10_next_47 : decode cX10_next 47 = .ok (.aload_n 0, 1) := by decide +kernel
theorem dX10_next_48 : decode cX10_next 48 = .ok (.aload_n 0, 1) := by decide +kernel
theorem dX10_next_49 : decode cX10_next 49 = .ok (.getfield 163, 3) := by decide +kernel
theorem dX10_next_52 : decode cX10_next 52 = .ok (.invokevirtual 166, 3) := by decide +kernel
theorem dX10_next_55 : decode cX10_next 55 = .ok (.istore_n 1, 1) := by decide +kernel
theorem dX10_next_56 : decode cX10_next 56 = .ok (.aload_n 0, 1) := by decide +kernel
theorem dX10_next_57 : decode cX10_next 57 = .ok (.iconst 4, 1) := by decide +kernel
theorem dX10_next_58 : decode cX10_next 58 = .ok (.putfield 172, 3) := by decide +kernel
theorem dX10_next_61 : decode cX10_next 61 = .ok (.iload_n 1, 1) := by decide +kernel
theorem dX10_next_62 : decode cX10_next 62 = .ok (.ifCond .ge 19, 3) := by decide +kernel
theorem dX10_next_65 : decode cX10_next 65 = .ok (.aload_n 0, 1) := by decide +kernel
theorem dX10_next_66 : decode cX10_next 66 = .ok (.iconst 0, 1) := by decide +kernel
theorem dX10_next_67 : decode cX10_next 67 = .ok (.putfield 172, 3) := by decide +kernel
theorem dX10_next_70 : decode cX10_next 70 = .ok (.aload_n 0, 1) := by decide +kernel
theorem dX10_next_71 : decode cX10_next 71 = .ok (.aload_n 0, 1) := by decide +kernel
theorem dX10_next_72 : decode cX10_next 72 = .ok (.getfield 157, 3) := by decide +kernel
theorem dX10_next_75 : decode cX10_next 75 = .ok (.putfield 169, 3) := by decide +kernel
theorem dX10_next_78 : decode cX10_next 78 = .ok (.goto 243, 3) := by decide +kernel
theorem dX10_next_81 : decode cX10_next 81 = .ok (.iload_n 1, 1) := by decide +kernel
theorem dX10_next_82 : decode cX10_next 82 = .ok (.i2l, 1) := by decide +kernel
theorem dX10_next_83 : decode cX10_next 83 = .ok (.ldc2_w 175, 3) := by decide +kernel
theorem dX10_next_86 : decode cX10_next 86 = .ok (.ldc2_w 177, 3) := by decide +kernel
theorem dX10_next_89 : decode cX10_next 89 = .ok (.invokestatic 106, 3) := by decide +kernel
theorem dX10_next_92 : decode cX10_next 92 = .ok (.ifCond .eq 42, 3) := by decide +kernel
theorem dX10_next_95 : decode cX10_next 95 = .ok (.aload_n 0, 1) := by decide +kernel
theorem dX10_next_96 : decode cX10_next 96 = .ok (.iconst 1, 1) := by decide +kernel
theorem dX10_next_97 : decode cX10_next 97 = .ok (.putfield 172, 3) := by decide +kernel
theorem dX10_next_100 : decode cX10_next 100 = .ok (.aload_n 0, 1) := by decide +kernel
theorem dX10_next_101 : decode cX10_next 101 = .ok (.aload_n 0, 1) := by decide +kernel
theorem dX10_next_102 : decode cX10_next 102 = .ok (.getfield 163, 3) := by decide +kernel
theorem dX10_next_105 : decode cX10_next 105 = .ok (.invokevirtual 166, 3) := by decide +kernel
theorem dX10_next_108 : decode cX10_next 108 = .ok (.i2l, 1) := by decide +kernel
theorem dX10_next_109 : decode cX10_next 109 = .ok (.ldc2_w 175, 3) := by decide +kernel
theorem dX10_next_112 : decode cX10_next 112 = .ok (.ldc2_w 177, 3) := by decide +kernel
theorem dX10_next_115 : decode cX10_next 115 = .ok (.invokestatic 106, 3) := by decide +kernel
theorem dX10_next_118 : decode cX10_next 118 = .ok (.ifCond .eq 203, 3) := by decide +kernel
theorem dX10_next_121 : decode cX10_next 121 = .ok (.aload_n 0, 1) := by decide +kernel
theorem dX10_next_122 : decode cX10_next 122 = .ok (.dup, 1) := by decide +kernel
theorem dX10_next_123 : decode cX10_next 123 = .ok (.getfield 163, 3) := by decide +kernel
theorem dX10_next_126 : decode cX10_next 126 = .ok (.iconst 1, 1) := by decide +kernel
theorem dX10_next_127 : decode cX10_next 127 = .ok (.iadd, 1) := by decide +kernel
theorem dX10_next_128 : decode cX10_next 128 = .ok (.putfield 163, 3) := by decide +kernel
theorem dX10_next_131 : decode cX10_next 131 = .ok (.goto (-31), 3) := by decide +kernel
theorem dX10_next_134 : decode cX10_next 134 = .ok (.iload_n 1, 1) := by decide +kernel
theorem dX10_next_135 : decode cX10_next 135 = .ok (.i2l, 1) := by decide +kernel
theorem dX10_next_136 : decode cX10_next 136 = .ok (.ldc2_w 179, 3) := by decide +kernel
theorem dX10_next_139 : decode cX10_next 139 = .ok (.ldc2_w 181, 3) := by decide +kernel
theorem dX10_next_142 : decode cX10_next 142 = .ok (.invokestatic 106, 3) := by decide +kernel
theorem dX10_next_145 : decode cX10_next 145 = .ok (.ifCond .eq 107, 3) := by decide +kernel
theorem dX10_next_148 : decode cX10_next 148 = .ok (.aload_n 0, 1) := by decide +kernel
theorem dX10_next_149 : decode cX10_next 149 = .ok (.iconst 2, 1) := by decide +kernel
theorem dX10_next_150 : decode cX10_next 150 = .ok (.putfield 172, 3) := by decide +kernel
theorem dX10_next_153 : decode cX10_next 153 = .ok (.aload_n 0, 1) := by decide +kernel
theorem dX10_next_154 : decode cX10_next 154 = .ok (.lconst 0, 1) := by decide +kernel
theorem dX10_next_155 : decode cX10_next 155 = .ok (.putfield 183, 3) := by decide +kernel
theorem dX10_next_158 : decode cX10_next 158 = .ok (.iconst 0, 1) := by decide +kernel
theorem dX10_next_159 : decode cX10_next 159 = .ok (.istore_n 2, 1) := by decide +kernel
theorem dX10_next_160 : decode cX10_next 160 = .ok (.aload_n 0, 1) := by decide +kernel
theorem dX10_next_161 : decode cX10_next 161 = .ok (.aload_n 0, 1) := by decide +kernel
theorem dX10_next_162 : decode cX10_next 162 = .ok (.getfield 163, 3) := by decide +kernel
theorem dX10_next_165 : decode cX10_next 165 = .ok (.invokevirtual 166, 3) := by decide +kernel
theorem dX10_next_168 : decode cX10_next 168 = .ok (.i2l, 1) := by decide +kernel
theorem dX10_next_169 : decode cX10_next 169 = .ok (.ldc2_w 179, 3) := by decide +kernel
theorem dX10_next_172 : decode cX10_next 172 = .ok (.ldc2_w 181, 3) := by decide +kernel
theorem dX10_next_175 : decode cX10_next 175 = .ok (.invokestatic 106, 3) := by decide +kernel
theorem dX10_next_178 : decode cX10_next 178 = .ok (.ifCond .eq 57, 3) := by decide +kernel
theorem dX10_next_181 : decode cX10_next 181 = .ok (.aload_n 0, 1) := by decide +kernel
theorem dX10_next_182 : decode cX10_next 182 = .ok (.iload_n 2, 1) := by decide +kernel
theorem dX10_next_183 : decode cX10_next 183 = .ok (.iconst 4, 1) := by decide +kernel
theorem dX10_next_184 : decode cX10_next 184 = .ok (.if_icmp .ge 28, 3) := by decide +kernel
theorem dX10_next_187 : decode cX10_next 187 = .ok (.ldc2_w 139, 3) := by decide +kernel
theorem dX10_next_190 : decode cX10_next 190 = .ok (.aload_n 0, 1) := by decide +kernel
theorem dX10_next_191 : decode cX10_next 191 = .ok (.getfield 183, 3) := by decide +kernel
theorem dX10_next_194 : decode cX10_next 194 = .ok (.lmul, 1) := by decide +kernel
theorem dX10_next_195 : decode cX10_next 195 = .ok (.aload_n 0, 1) := by decide +kernel
theorem dX10_next_196 : decode cX10_next 196 = .ok (.aload_n 0, 1) := by decide +kernel
theorem dX10_next_197 : decode cX10_next 197 = .ok (.getfield 163, 3) := by decide +kernel
theorem dX10_next_200 : decode cX10_next 200 = .ok (.invokevirtual 166, 3) := by decide +kernel
theorem dX10_next_203 : decode cX10_next 203 = .ok (.i2l, 1) := by decide +kernel
theorem dX10_next_204 : decode cX10_next 204 = .ok (.ladd, 1) := by decide +kernel
theorem dX10_next_205 : decode cX10_next 205 = .ok (.ldc2_w 179, 3) := by decide +kernel
theorem dX10_next_208 : decode cX10_next 208 = .ok (.lsub, 1) := by decide +kernel
theorem dX10_next_209 : decode cX10_next 209 = .ok (.goto 7, 3) := by decide +kernel
theorem dX10_next_212 : decode cX10_next 212 = .ok (.aload_n 0, 1) := by decide +kernel
theorem dX10_next_213 : decode cX10_next 213 = .ok (.getfield 183, 3) := by decide +kernel
theorem dX10_next_216 : decode cX10_next 216 = .ok (.putfield 183, 3) := by decide +kernel
theorem dX10_next_219 : decode cX10_next 219 = .ok (.iinc 2 1, 3) := by decide +kernel
theorem dX10_next_222 : decode cX10_next 222 = .ok (.aload_n 0, 1) := by decide +kernel
theorem dX10_next_223 : decode cX10_next 223 = .ok (.dup, 1) := by decide +kernel
theorem dX10_next_224 : decode cX10_next 224 = .ok (.getfield 163, 3) := by decide +kernel
theorem dX10_next_227 : decode cX10_next 227 = .ok (.iconst 1, 1) := by decide +kernel
theorem dX10_next_228 : decode cX10_next 228 = .ok (.iadd, 1) := by decide +kernel
theorem dX10_next_229 : decode cX10_next 229 = .ok (.putfield 163, 3) := by decide +kernel
theorem dX10_next_232 : decode cX10_next 232 = .ok (.goto (-72), 3) := by decide +kernel
theorem dX10_next_235 : decode cX10_next 235 = .ok (.aload_n 0, 1) := by decide +kernel
theorem dX10_next_236 : decode cX10_next 236 = .ok (.iload_n 2, 1) := by decide +kernel
theorem dX10_next_237 : decode cX10_next 237 = .ok (.iconst 4, 1) := by decide +kernel
theorem dX10_next_238 : decode cX10_next 238 = .ok (.if_icmp .le 7, 3) := by decide +kernel
theorem dX10_next_241 : decode cX10_next 241 = .ok (.iconst 4, 1) := by decide +kernel
theorem dX10_next_242 : decode cX10_next 242 = .ok (.goto 4, 3) := by decide +kernel
theorem dX10_next_245 : decode cX10_next 245 = .ok (.iconst 2, 1) := by decide +kernel
theorem dX10_next_246 : decode cX10_next 246 = .ok (.putfield 172, 3) := by decide +kernel
theorem dX10_next_249 : decode cX10_next 249 = .ok (.goto 72, 3) := by decide +kernel
theorem dX10_next_252 : decode cX10_next 252 = .ok (.iload_n 1, 1) := by decide +kernel
theorem dX10_next_253 : decode cX10_next 253 = .ok (.bipush 40, 2) := by decide +kernel
theorem dX10_next_255 : decode cX10_next 255 = .ok (.if_icmp .eq 45, 3) := by decide +kernel
theorem dX10_next_258 : decode cX10_next 258 = .ok (.iload_n 1, 1) := by decide +kernel
theorem dX10_next_259 : decode cX10_next 259 = .ok (.bipush 41, 2) := by decide +kernel
theorem dX10_next_261 : decode cX10_next 261 = .ok (.if_icmp .eq 39, 3) := by decide +kernel
theorem dX10_next_264 : decode cX10_next 264 = .ok (.iload_n 1, 1) := by decide +kernel
theorem dX10_next_265 : decode cX10_next 265 = .ok (.bipush 59, 2) := by decide +kernel
theorem dX10_next_267 : decode cX10_next 267 = .ok (.if_icmp .eq 33, 3) := by decide +kernel
theorem dX10_next_270 : decode cX10_next 270 = .ok (.iload_n 1, 1) := by decide +kernel
theorem dX10_next_271 : decode cX10_next 271 = .ok (.bipush 43, 2) := by decide +kernel
theorem dX10_next_273 : decode cX10_next 273 = .ok (.if_icmp .eq 27, 3) := by decide +kernel
theorem dX10_next_276 : decode cX10_next 276 = .ok (.iload_n 1, 1) := by decide +kernel
theorem dX10_next_277 : decode cX10_next 277 = .ok (.bipush 45, 2) := by decide +kernel
theorem dX10_next_279 : decode cX10_next 279 = .ok (.if_icmp .eq 21, 3) := by decide +kernel
theorem dX10_next_282 : decode cX10_next 282 = .ok (.iload_n 1, 1) := by decide +kernel
theorem dX10_next_283 : decode cX10_next 283 = .ok (.bipush 42, 2) := by decide +kernel
theorem dX10_next_285 : decode cX10_next 285 = .ok (.if_icmp .eq 15, 3) := by decide +kernel
theorem dX10_next_288 : decode cX10_next 288 = .ok (.iload_n 1, 1) := by decide +kernel
theorem dX10_next_289 : decode cX10_next 289 = .ok (.bipush 60, 2) := by decide +kernel
theorem dX10_next_291 : decode cX10_next 291 = .ok (.if_icmp .eq 9, 3) := by decide +kernel
theorem dX10_next_294 : decode cX10_next 294 = .ok (.iload_n 1, 1) := by decide +kernel
theorem dX10_next_295 : decode cX10_next 295 = .ok (.bipush 61, 2) := by decide +kernel
theorem dX10_next_297 : decode cX10_next 297 = .ok (.if_icmp .ne 24, 3) := by decide +kernel
theorem dX10_next_300 : decode cX10_next 300 = .ok (.aload_n 0, 1) := by decide +kernel
theorem dX10_next_301 : decode cX10_next 301 = .ok (.iconst 3, 1) := by decide +kernel
theorem dX10_next_302 : decode cX10_next 302 = .ok (.putfield 172, 3) := by decide +kernel
theorem dX10_next_305 : decode cX10_next 305 = .ok (.aload_n 0, 1) := by decide +kernel
theorem dX10_next_306 : decode cX10_next 306 = .ok (.iload_n 1, 1) := by decide +kernel
theorem dX10_next_307 : decode cX10_next 307 = .ok (.i2l, 1) := by decide +kernel
theorem dX10_next_308 : decode cX10_next 308 = .ok (.putfield 183, 3) := by decide +kernel
theorem dX10_next_311 : decode cX10_next 311 = .ok (.aload_n 0, 1) := by decide +kernel
theorem dX10_next_312 : decode cX10_next 312 = .ok (.dup, 1) := by decide +kernel
theorem dX10_next_313 : decode cX10_next 313 = .ok (.getfield 163, 3) := by decide +kernel
theorem dX10_next_316 : decode cX10_next 316 = .ok (.iconst 1, 1) := by decide +kernel
theorem dX10_next_317 : decode cX10_next 317 = .ok (.iadd, 1) := by decide +kernel
theorem dX10_next_318 : decode cX10_next 318 = .ok (.putfield 163, 3) := by decide +kernel
theorem dX10_next_321 : decode cX10_next 321 = .ok (.return_, 1) := by decide +kernel
theorem dX10_fail_0 : decode cX10_fail 0 = .ok (.aload_n 0, 1) := by decide +kernel
theorem dX10_fail_1 : decode cX10_fail 1 = .ok (.getfield 187, 3) := by decide +kernel
theorem dX10_fail_4 : decode cX10_fail 4 = .ok (.ifCond .ne 16, 3) := by decide +kernel
theorem dX10_fail_7 : decode cX10_fail 7 = .ok (.aload_n 0, 1) := by decide +kernel
theorem dX10_fail_8 : decode cX10_fail 8 = .ok (.iconst 1, 1) := by decide +kernel
theorem dX10_fail_9 : decode cX10_fail 9 = .ok (.putfield 187, 3) := by decide +kernel
theorem dX10_fail_12 : decode cX10_fail 12 = .ok (.aload_n 0, 1) := by decide +kernel
theorem dX10_fail_13 : decode cX10_fail 13 = .ok (.aload_n 0, 1) := by decide +kernel
theorem dX10_fail_14 : decode cX10_fail 14 = .ok (.getfield 169, 3) := by decide +kernel
theorem dX10_fail_17 : decode cX10_fail 17 = .ok (.putfield 191, 3) := by decide +kernel
theorem dX10_fail_20 : decode cX10_fail 20 = .ok (.return_, 1) := by decide +kernel
theorem dX10_isLetter_0 : decode cX10_isLetter 0 = .ok (.aload_n 0, 1) := by decide +kernel
theorem dX10_isLetter_1 : decode cX10_isLetter 1 = .ok (.getfield 169, 3) := by decide +kernel
theorem dX10_isLetter_4 : decode cX10_isLetter 4 = .ok (.iload_n 1, 1) := by decide +kernel
theorem dX10_isLetter_5 : decode cX10_isLetter 5 = .ok (.iadd, 1) := by decide +kernel
theorem dX10_isLetter_6 : decode cX10_isLetter 6 = .ok (.aload_n 0, 1) := by decide +kernel
theorem dX10_isLetter_7 : decode cX10_isLetter 7 = .ok (.getfield 163, 3) := by decide +kernel
theorem dX10_isLetter_10 : decode cX10_isLetter 10 = .ok (.if_icmp .ge 25, 3) := by decide +kernel
theorem dX10_isLetter_13 : decode cX10_isLetter 13 = .ok (.aload_n 0, 1) := by decide +kernel
theorem dX10_isLetter_14 : decode cX10_isLetter 14 = .ok (.aload_n 0, 1) := by decide +kernel
theorem dX10_isLetter_15 : decode cX10_isLetter 15 = .ok (.getfield 169, 3) := by decide +kernel
theorem dX10_isLetter_18 : decode cX10_isLetter 18 = .ok (.iload_n 1, 1) := by decide +kernel
theorem dX10_isLetter_19 : decode cX10_isLetter 19 = .ok (.iadd, 1) := by decide +kernel
theorem dX10_isLetter_20 : decode cX10_isLetter 20 = .ok (.invokevirtual 166, 3) := by decide +kernel
theorem dX10_isLetter_23 : decode cX10_isLetter 23 = .ok (.iload_n 2, 1) := by decide +kernel
theorem dX10_isLetter_24 : decode cX10_isLetter 24 = .ok (.if_icmp .ne 7, 3) := by decide +kernel
theorem dX10_isLetter_27 : decode cX10_isLetter 27 = .ok (.iconst 1, 1) := by decide +kernel
theorem dX10_isLetter_28 : decode cX10_isLetter 28 = .ok (.goto 16, 3) := by decide +kernel
theorem dX10_isLetter_31 : decode cX10_isLetter 31 = .ok (.iconst 0, 1) := by decide +kernel
theorem dX10_isLetter_32 : decode cX10_isLetter 32 = .ok (.goto 12, 3) := by decide +kernel
theorem dX10_isLetter_35 : decode cX10_isLetter 35 = .ok (.iload_n 2, 1) := by decide +kernel
theorem dX10_isLetter_36 : decode cX10_isLetter 36 = .ok (.ifCond .ne 7, 3) := by decide +kernel
theorem dX10_isLetter_39 : decode cX10_isLetter 39 = .ok (.iconst 1, 1) := by decide +kernel
theorem dX10_isLetter_40 : decode cX10_isLetter 40 = .ok (.goto 4, 3) := by decide +kernel
theorem dX10_isLetter_43 : decode cX10_isLetter 43 = .ok (.iconst 0, 1) := by decide +kernel
theorem dX10_isLetter_44 : decode cX10_isLetter 44 = .ok (.ireturn, 1) := by decide +kernel
theorem dX10_isWord_0 : decode cX10_isWord 0 = .ok (.aload_n 0, 1) := by decide +kernel
theorem dX10_isWord_1 : decode cX10_isWord 1 = .ok (.getfield 187, 3) := by decide +kernel
theorem dX10_isWord_4 : decode cX10_isWord 4 = .ok (.ifCond .ne 108, 3) := by decide +kernel
theorem dX10_isWord_7 : decode cX10_isWord 7 = .ok (.aload_n 0, 1) := by decide +kernel
theorem dX10_isWord_8 : decode cX10_isWord 8 = .ok (.getfield 172, 3) := by decide +kernel
theorem dX10_isWord_11 : decode cX10_isWord 11 = .ok (.iconst 1, 1) := by decide +kernel
theorem dX10_isWord_12 : decode cX10_isWord 12 = .ok (.if_icmp .ne 100, 3) := by decide +kernel
theorem dX10_isWord_15 : decode cX10_isWord 15 = .ok (.aload_n 0, 1) := by decide +kernel
theorem dX10_isWord_16 : decode cX10_isWord 16 = .ok (.getfield 163, 3) := by decide +kernel
theorem dX10_isWord_19 : decode cX10_isWord 19 = .ok (.aload_n 0, 1) := by decide +kernel
theorem dX10_isWord_20 : decode cX10_isWord 20 = .ok (.getfield 169, 3) := by decide +kernel
theorem dX10_isWord_23 : decode cX10_isWord 23 = .ok (.bipush 8, 2) := by decide +kernel
theorem dX10_isWord_25 : decode cX10_isWord 25 = .ok (.iadd, 1) := by decide +kernel
theorem dX10_isWord_26 : decode cX10_isWord 26 = .ok (.if_icmp .gt 86, 3) := by decide +kernel
theorem dX10_isWord_29 : decode cX10_isWord 29 = .ok (.aload_n 0, 1) := by decide +kernel
theorem dX10_isWord_30 : decode cX10_isWord 30 = .ok (.iconst 0, 1) := by decide +kernel
theorem dX10_isWord_31 : decode cX10_isWord 31 = .ok (.iload_n 1, 1) := by decide +kernel
theorem dX10_isWord_32 : decode cX10_isWord 32 = .ok (.invokevirtual 194, 3) := by decide +kernel
theorem dX10_isWord_35 : decode cX10_isWord 35 = .ok (.ifCond .eq 77, 3) := by decide +kernel
theorem dX10_isWord_38 : decode cX10_isWord 38 = .ok (.aload_n 0, 1) := by decide +kernel
theorem dX10_isWord_39 : decode cX10_isWord 39 = .ok (.iconst 1, 1) := by decide +kernel
theorem dX10_isWord_40 : decode cX10_isWord 40 = .ok (.iload_n 2, 1) := by decide +kernel
theorem dX10_isWord_41 : decode cX10_isWord 41 = .ok (.invokevirtual 194, 3) := by decide +kernel
theorem dX10_isWord_44 : decode cX10_isWord 44 = .ok (.ifCond .eq 68, 3) := by decide +kernel
theorem dX10_isWord_47 : decode cX10_isWord 47 = .ok (.aload_n 0, 1) := by decide +kernel
theorem dX10_isWord_48 : decode cX10_isWord 48 = .ok (.iconst 2, 1) := by decide +kernel
theorem dX10_isWord_49 : decode cX10_isWord 49 = .ok (.iload_n 3, 1) := by decide +kernel
theorem dX10_isWord_50 : decode cX10_isWord 50 = .ok (.invokevirtual 194, 3) := by decide +kernel
theorem dX10_isWord_53 : decode cX10_isWord 53 = .ok (.ifCond .eq 59, 3) := by decide +kernel
theorem dX10_isWord_56 : decode cX10_isWord 56 = .ok (.aload_n 0, 1) := by decide +kernel
theorem dX10_isWord_57 : decode cX10_isWord 57 = .ok (.iconst 3, 1) := by decide +kernel
theorem dX10_isWord_58 : decode cX10_isWord 58 = .ok (.iload 4, 2) := by decide +kernel
theorem dX10_isWord_60 : decode cX10_isWord 60 = .ok (.invokevirtual 194, 3) := by decide +kernel
theorem dX10_isWord_63 : decode cX10_isWord 63 = .ok (.ifCond .eq 49, 3) := by decide +kernel
theorem dX10_isWord_66 : decode cX10_isWord 66 = .ok (.aload_n 0, 1) := by decide +kernel
theorem dX10_isWord_67 : decode cX10_isWord 67 = .ok (.iconst 4, 1) := by decide +kernel
theorem dX10_isWord_68 : decode cX10_isWord 68 = .ok (.iload 5, 2) := by decide +kernel
theorem dX10_isWord_70 : decode cX10_isWord 70 = .ok (.invokevirtual 194, 3) := by decide +kernel
theorem dX10_isWord_73 : decode cX10_isWord 73 = .ok (.ifCond .eq 39, 3) := by decide +kernel
theorem dX10_isWord_76 : decode cX10_isWord 76 = .ok (.aload_n 0, 1) := by decide +kernel
theorem dX10_isWord_77 : decode cX10_isWord 77 = .ok (.iconst 5, 1) := by decide +kernel
theorem dX10_isWord_78 : decode cX10_isWord 78 = .ok (.iload 6, 2) := by decide +kernel
theorem dX10_isWord_80 : decode cX10_isWord 80 = .ok (.invokevirtual 194, 3) := by decide +kernel
theorem dX10_isWord_83 : decode cX10_isWord 83 = .ok (.ifCond .eq 29, 3) := by decide +kernel
theorem dX10_isWord_86 : decode cX10_isWord 86 = .ok (.aload_n 0, 1) := by decide +kernel
theorem dX10_isWord_87 : decode cX10_isWord 87 = .ok (.bipush 6, 2) := by decide +kernel
theorem dX10_isWord_89 : decode cX10_isWord 89 = .ok (.iload 7, 2) := by decide +kernel
theorem dX10_isWord_91 : decode cX10_isWord 91 = .ok (.invokevirtual 194, 3) := by decide +kernel
theorem dX10_isWord_94 : decode cX10_isWord 94 = .ok (.ifCond .eq 18, 3) := by decide +kernel
theorem dX10_isWord_97 : decode cX10_isWord 97 = .ok (.aload_n 0, 1) := by decide +kernel
theorem dX10_isWord_98 : decode cX10_isWord 98 = .ok (.bipush 7, 2) := by decide +kernel
theorem dX10_isWord_100 : decode cX10_isWord 100 = .ok (.iload 8, 2) := by decide +kernel
theorem dX10_isWord_102 : decode cX10_isWord 102 = .ok (.invokevirtual 194, 3) := by decide +kernel
theorem dX10_isWord_105 : decode cX10_isWord 105 = .ok (.ifCond .eq 7, 3) := by decide +kernel
theorem dX10_isWord_108 : decode cX10_isWord 108 = .ok (.iconst 1, 1) := by decide +kernel
theorem dX10_isWord_109 : decode cX10_isWord 109 = .ok (.goto 4, 3) := by decide +kernel
theorem dX10_isWord_112 : decode cX10_isWord 112 = .ok (.iconst 0, 1) := by decide +kernel
theorem dX10_isWord_113 : decode cX10_isWord 113 = .ok (.ireturn, 1) := by decide +kernel
theorem dX10_isSign_0 : decode cX10_isSign 0 = .ok (.aload_n 0, 1) := by decide +kernel
theorem dX10_isSign_1 : decode cX10_isSign 1 = .ok (.getfield 187, 3) := by decide +kernel
theorem dX10_isSign_4 : decode cX10_isSign 4 = .ok (.ifCond .ne 25, 3) := by decide +kernel
theorem dX10_isSign_7 : decode cX10_isSign 7 = .ok (.aload_n 0, 1) := by decide +kernel
theorem dX10_isSign_8 : decode cX10_isSign 8 = .ok (.getfield 172, 3) := by decide +kernel
theorem dX10_isSign_11 : decode cX10_isSign 11 = .ok (.iconst 3, 1) := by decide +kernel
theorem dX10_isSign_12 : decode cX10_isSign 12 = .ok (.if_icmp .ne 17, 3) := by decide +kernel
theorem dX10_isSign_15 : decode cX10_isSign 15 = .ok (.aload_n 0, 1) := by decide +kernel
theorem dX10_isSign_16 : decode cX10_isSign 16 = .ok (.getfield 183, 3) := by decide +kernel
theorem dX10_isSign_19 : decode cX10_isSign 19 = .ok (.iload_n 1, 1) := by decide +kernel
theorem dX10_isSign_20 : decode cX10_isSign 20 = .ok (.i2l, 1) := by decide +kernel
theorem dX10_isSign_21 : decode cX10_isSign 21 = .ok (.lcmp, 1) := by decide +kernel
theorem dX10_isSign_22 : decode cX10_isSign 22 = .ok (.ifCond .ne 7, 3) := by decide +kernel
theorem dX10_isSign_25 : decode cX10_isSign 25 = .ok (.iconst 1, 1) := by decide +kernel
theorem dX10_isSign_26 : decode cX10_isSign 26 = .ok (.goto 4, 3) := by decide +kernel
theorem dX10_isSign_29 : decode cX10_isSign 29 = .ok (.iconst 0, 1) := by decide +kernel
theorem dX10_isSign_30 : decode cX10_isSign 30 = .ok (.ireturn, 1) := by decide +kernel
theorem dX10_opens_0 : decode cX10_opens 0 = .ok (.aload_n 0, 1) := by decide +kernel
theorem dX10_opens_1 : decode cX10_opens 1 = .ok (.getfield 198, 3) := by decide +kernel
theorem dX10_opens_4 : decode cX10_opens 4 = .ok (.iconst 5, 1) := by decide +kernel
theorem dX10_opens_5 : decode cX10_opens 5 = .ok (.if_icmp .ne 9, 3) := by decide +kernel
theorem dX10_opens_8 : decode cX10_opens 8 = .ok (.aload_n 0, 1) := by decide +kernel
theorem dX10_opens_9 : decode cX10_opens 9 = .ok (.invokevirtual 201, 3) := by decide +kernel
theorem dX10_opens_12 : decode cX10_opens 12 = .ok (.iconst 0, 1) := by decide +kernel
theorem dX10_opens_13 : decode cX10_opens 13 = .ok (.ireturn, 1) := by decide +kernel
theorem dX10_opens_14 : decode cX10_opens 14 = .ok (.aload_n 0, 1) := by decide +kernel
theorem dX10_opens_15 : decode cX10_opens 15 = .ok (.dup, 1) := by decide +kernel
theorem dX10_opens_16 : decode cX10_opens 16 = .ok (.getfield 198, 3) := by decide +kernel
theorem dX10_opens_19 : decode cX10_opens 19 = .ok (.iconst 1, 1) := by decide +kernel
theorem dX10_opens_20 : decode cX10_opens 20 = .ok (.iadd, 1) := by decide +kernel
theorem dX10_opens_21 : decode cX10_opens 21 = .ok (.putfield 198, 3) := by decide +kernel
theorem dX10_opens_24 : decode cX10_opens 24 = .ok (.aload_n 0, 1) := by decide +kernel
theorem dX10_opens_25 : decode cX10_opens 25 = .ok (.invokevirtual 204, 3) := by decide +kernel
theorem dX10_opens_28 : decode cX10_opens 28 = .ok (.iconst 1, 1) := by decide +kernel
theorem dX10_opens_29 : decode cX10_opens 29 = .ok (.ireturn, 1) := by decide +kernel
theorem dX10_name_0 : decode cX10_name 0 = .ok (.aload_n 0, 1) := by decide +kernel
theorem dX10_name_1 : decode cX10_name 1 = .ok (.bipush 97, 2) := by decide +kernel
theorem dX10_name_3 : decode cX10_name 3 = .ok (.bipush 103, 2) := by decide +kernel
theorem dX10_name_5 : decode cX10_name 5 = .ok (.bipush 101, 2) := by decide +kernel
theorem dX10_name_7 : decode cX10_name 7 = .ok (.iconst 0, 1) := by decide +kernel
theorem dX10_name_8 : decode cX10_name 8 = .ok (.iconst 0, 1) := by decide +kernel
theorem dX10_name_9 : decode cX10_name 9 = .ok (.iconst 0, 1) := by decide +kernel
theorem dX10_name_10 : decode cX10_name 10 = .ok (.iconst 0, 1) := by decide +kernel
theorem dX10_name_11 : decode cX10_name 11 = .ok (.iconst 0, 1) := by decide +kernel
theorem dX10_name_12 : decode cX10_name 12 = .ok (.invokevirtual 207, 3) := by decide +kernel
theorem dX10_name_15 : decode cX10_name 15 = .ok (.ifCond .eq 8, 3) := by decide +kernel
theorem dX10_name_18 : decode cX10_name 18 = .ok (.aload_n 0, 1) := by decide +kernel
theorem dX10_name_19 : decode cX10_name 19 = .ok (.getfield 211, 3) := by decide +kernel
theorem dX10_name_22 : decode cX10_name 22 = .ok (.ireturn, 1) := by decide +kernel
theorem dX10_name_23 : decode cX10_name 23 = .ok (.aload_n 0, 1) := by decide +kernel
theorem dX10_name_24 : decode cX10_name 24 = .ok (.bipush 115, 2) := by decide +kernel
theorem dX10_name_26 : decode cX10_name 26 = .ok (.bipush 105, 2) := by decide +kernel
theorem dX10_name_28 : decode cX10_name 28 = .ok (.bipush 122, 2) := by decide +kernel
theorem dX10_name_30 : decode cX10_name 30 = .ok (.bipush 101, 2) := by decide +kernel
theorem dX10_name_32 : decode cX10_name 32 = .ok (.iconst 0, 1) := by decide +kernel
theorem dX10_name_33 : decode cX10_name 33 = .ok (.iconst 0, 1) := by decide +kernel
theorem dX10_name_34 : decode cX10_name 34 = .ok (.iconst 0, 1) := by decide +kernel
theorem dX10_name_35 : decode cX10_name 35 = .ok (.iconst 0, 1) := by decide +kernel
theorem dX10_name_36 : decode cX10_name 36 = .ok (.invokevirtual 207, 3) := by decide +kernel
theorem dX10_name_39 : decode cX10_name 39 = .ok (.ifCond .eq 8, 3) := by decide +kernel
theorem dX10_name_42 : decode cX10_name 42 = .ok (.aload_n 0, 1) := by decide +kernel
theorem dX10_name_43 : decode cX10_name 43 = .ok (.getfield 214, 3) := by decide +kernel
theorem dX10_name_46 : decode cX10_name 46 = .ok (.ireturn, 1) := by decide +kernel
theorem dX10_name_47 : decode cX10_name 47 = .ok (.aload_n 0, 1) := by decide +kernel
theorem dX10_name_48 : decode cX10_name 48 = .ok (.bipush 118, 2) := by decide +kernel
theorem dX10_name_50 : decode cX10_name 50 = .ok (.bipush 97, 2) := by decide +kernel
theorem dX10_name_52 : decode cX10_name 52 = .ok (.bipush 108, 2) := by decide +kernel
theorem dX10_name_54 : decode cX10_name 54 = .ok (.bipush 117, 2) := by decide +kernel
theorem dX10_name_56 : decode cX10_name 56 = .ok (.bipush 101, 2) := by decide +kernel
theorem dX10_name_58 : decode cX10_name 58 = .ok (.iconst 0, 1) := by decide +kernel
theorem dX10_name_59 : decode cX10_name 59 = .ok (.iconst 0, 1) := by decide +kernel
theorem dX10_name_60 : decode cX10_name 60 = .ok (.iconst 0, 1) := by decide +kernel
theorem dX10_name_61 : decode cX10_name 61 = .ok (.invokevirtual 207, 3) := by decide +kernel
theorem dX10_name_64 : decode cX10_name 64 = .ok (.ifCond .eq 8, 3) := by decide +kernel
theorem dX10_name_67 : decode cX10_name 67 = .ok (.aload_n 0, 1) := by decide +kernel
theorem dX10_name_68 : decode cX10_name 68 = .ok (.getfield 217, 3) := by decide +kernel
theorem dX10_name_71 : decode cX10_name 71 = .ok (.ireturn, 1) := by decide +kernel
theorem dX10_name_72 : decode cX10_name 72 = .ok (.aload_n 0, 1) := by decide +kernel
theorem dX10_name_73 : decode cX10_name 73 = .ok (.bipush 119, 2) := by decide +kernel
theorem dX10_name_75 : decode cX10_name 75 = .ok (.bipush 101, 2) := by decide +kernel
theorem dX10_name_77 : decode cX10_name 77 = .ok (.bipush 101, 2) := by decide +kernel
theorem dX10_name_79 : decode cX10_name 79 = .ok (.bipush 107, 2) := by decide +kernel
theorem dX10_name_81 : decode cX10_name 81 = .ok (.iconst 0, 1) := by decide +kernel
theorem dX10_name_82 : decode cX10_name 82 = .ok (.iconst 0, 1) := by decide +kernel
theorem dX10_name_83 : decode cX10_name 83 = .ok (.iconst 0, 1) := by decide +kernel
theorem dX10_name_84 : decode cX10_name 84 = .ok (.iconst 0, 1) := by decide +kernel
theorem dX10_name_85 : decode cX10_name 85 = .ok (.invokevirtual 207, 3) := by decide +kernel
theorem dX10_name_88 : decode cX10_name 88 = .ok (.ifCond .eq 8, 3) := by decide +kernel
theorem dX10_name_91 : decode cX10_name 91 = .ok (.aload_n 0, 1) := by decide +kernel
theorem dX10_name_92 : decode cX10_name 92 = .ok (.getfield 220, 3) := by decide +kernel
theorem dX10_name_95 : decode cX10_name 95 = .ok (.ireturn, 1) := by decide +kernel
theorem dX10_name_96 : decode cX10_name 96 = .ok (.aload_n 0, 1) := by decide +kernel
theorem dX10_name_97 : decode cX10_name 97 = .ok (.bipush 102, 2) := by decide +kernel
theorem dX10_name_99 : decode cX10_name 99 = .ok (.bipush 101, 2) := by decide +kernel
theorem dX10_name_101 : decode cX10_name 101 = .ok (.bipush 101, 2) := by decide +kernel
theorem dX10_name_103 : decode cX10_name 103 = .ok (.iconst 0, 1) := by decide +kernel
theorem dX10_name_104 : decode cX10_name 104 = .ok (.iconst 0, 1) := by decide +kernel
theorem dX10_name_105 : decode cX10_name 105 = .ok (.iconst 0, 1) := by decide +kernel
theorem dX10_name_106 : decode cX10_name 106 = .ok (.iconst 0, 1) := by decide +kernel
theorem dX10_name_107 : decode cX10_name 107 = .ok (.iconst 0, 1) := by decide +kernel
theorem dX10_name_108 : decode cX10_name 108 = .ok (.invokevirtual 207, 3) := by decide +kernel
theorem dX10_name_111 : decode cX10_name 111 = .ok (.ifCond .eq 8, 3) := by decide +kernel
theorem dX10_name_114 : decode cX10_name 114 = .ok (.aload_n 0, 1) := by decide +kernel
theorem dX10_name_115 : decode cX10_name 115 = .ok (.getfield 223, 3) := by decide +kernel
theorem dX10_name_118 : decode cX10_name 118 = .ok (.ireturn, 1) := by decide +kernel
theorem dX10_name_119 : decode cX10_name 119 = .ok (.aload_n 0, 1) := by decide +kernel
theorem dX10_name_120 : decode cX10_name 120 = .ok (.bipush 111, 2) := by decide +kernel
theorem dX10_name_122 : decode cX10_name 122 = .ok (.bipush 119, 2) := by decide +kernel
theorem dX10_name_124 : decode cX10_name 124 = .ok (.bipush 110, 2) := by decide +kernel
theorem dX10_name_126 : decode cX10_name 126 = .ok (.iconst 0, 1) := by decide +kernel
theorem dX10_name_127 : decode cX10_name 127 = .ok (.iconst 0, 1) := by decide +kernel
theorem dX10_name_128 : decode cX10_name 128 = .ok (.iconst 0, 1) := by decide +kernel
theorem dX10_name_129 : decode cX10_name 129 = .ok (.iconst 0, 1) := by decide +kernel
theorem dX10_name_130 : decode cX10_name 130 = .ok (.iconst 0, 1) := by decide +kernel
theorem dX10_name_131 : decode cX10_name 131 = .ok (.invokevirtual 207, 3) := by decide +kernel
theorem dX10_name_134 : decode cX10_name 134 = .ok (.ifCond .eq 8, 3) := by decide +kernel
theorem dX10_name_137 : decode cX10_name 137 = .ok (.aload_n 0, 1) := by decide +kernel
theorem dX10_name_138 : decode cX10_name 138 = .ok (.getfield 226, 3) := by decide +kernel
theorem dX10_name_141 : decode cX10_name 141 = .ok (.ireturn, 1) := by decide +kernel
theorem dX10_name_142 : decode cX10_name 142 = .ok (.aload_n 0, 1) := by decide +kernel
theorem dX10_name_143 : decode cX10_name 143 = .ok (.invokevirtual 201, 3) := by decide +kernel
theorem dX10_name_146 : decode cX10_name 146 = .ok (.iconst 0, 1) := by decide +kernel
theorem dX10_name_147 : decode cX10_name 147 = .ok (.ireturn, 1) := by decide +kernel
theorem dX10_atom_0 : decode cX10_atom 0 = .ok (.iconst 0, 1) := by decide +kernel
theorem dX10_atom_1 : decode cX10_atom 1 = .ok (.istore_n 1, 1) := by decide +kernel
theorem dX10_atom_2 : decode cX10_atom 2 = .ok (.aload_n 0, 1) := by decide +kernel
theorem dX10_atom_3 : decode cX10_atom 3 = .ok (.bipush 45, 2) := by decide +kernel
theorem dX10_atom_5 : decode cX10_atom 5 = .ok (.invokevirtual 229, 3) := by decide +kernel
theorem dX10_atom_8 : decode cX10_atom 8 = .ok (.ifCond .eq 29, 3) := by decide +kernel
theorem dX10_atom_11 : decode cX10_atom 11 = .ok (.aload_n 0, 1) := by decide +kernel
theorem dX10_atom_12 : decode cX10_atom 12 = .ok (.invokevirtual 232, 3) := by decide +kernel
theorem dX10_atom_15 : decode cX10_atom 15 = .ok (.ifCond .eq 146, 3) := by decide +kernel
theorem dX10_atom_18 : decode cX10_atom 18 = .ok (.aload_n 0, 1) := by decide +kernel
theorem dX10_atom_19 : decode cX10_atom 19 = .ok (.invokevirtual 236, 3) := by decide +kernel
theorem dX10_atom_22 : decode cX10_atom 22 = .ok (.ineg, 1) := by decide +kernel
theorem dX10_atom_23 : decode cX10_atom 23 = .ok (.istore_n 1, 1) := by decide +kernel
theorem dX10_atom_24 : decode cX10_atom 24 = .ok (.aload_n 0, 1) := by decide +kernel
theorem dX10_atom_25 : decode cX10_atom 25 = .ok (.dup, 1) := by decide +kernel
theorem dX10_atom_26 : decode cX10_atom 26 = .ok (.getfield 198, 3) := by decide +kernel
theorem dX10_atom_29 : decode cX10_atom 29 = .ok (.iconst 1, 1) := by decide +kernel
theorem dX10_atom_30 : decode cX10_atom 30 = .ok (.isub, 1) := by decide +kernel
theorem dX10_atom_31 : decode cX10_atom 31 = .ok (.putfield 198, 3) := by decide +kernel
theorem dX10_atom_34 : decode cX10_atom 34 = .ok (.goto 127, 3) := by decide +kernel
theorem dX10_atom_37 : decode cX10_atom 37 = .ok (.aload_n 0, 1) := by decide +kernel
theorem dX10_atom_38 : decode cX10_atom 38 = .ok (.bipush 40, 2) := by decide +kernel
theorem dX10_atom_40 : decode cX10_atom 40 = .ok (.invokevirtual 229, 3) := by decide +kernel
theorem dX10_atom_43 : decode cX10_atom 43 = .ok (.ifCond .eq 52, 3) := by decide +kernel
theorem dX10_atom_46 : decode cX10_atom 46 = .ok (.aload_n 0, 1) := by decide +kernel
theorem dX10_atom_47 : decode cX10_atom 47 = .ok (.invokevirtual 232, 3) := by decide +kernel
theorem dX10_atom_50 : decode cX10_atom 50 = .ok (.ifCond .eq 111, 3) := by decide +kernel
theorem dX10_atom_53 : decode cX10_atom 53 = .ok (.aload_n 0, 1) := by decide +kernel
theorem dX10_atom_54 : decode cX10_atom 54 = .ok (.invokevirtual 240, 3) := by decide +kernel
theorem dX10_atom_57 : decode cX10_atom 57 = .ok (.istore_n 1, 1) := by decide +kernel
theorem dX10_atom_58 : decode cX10_atom 58 = .ok (.aload_n 0, 1) := by decide +kernel
theorem dX10_atom_59 : decode cX10_atom 59 = .ok (.bipush 41, 2) := by decide +kernel
theorem dX10_atom_61 : decode cX10_atom 61 = .ok (.invokevirtual 229, 3) := by decide +kernel
theorem dX10_atom_64 : decode cX10_atom 64 = .ok (.ifCond .ne 7, 3) := by decide +kernel
theorem dX10_atom_67 : decode cX10_atom 67 = .ok (.aload_n 0, 1) := by decide +kernel
theorem dX10_atom_68 : decode cX10_atom 68 = .ok (.invokevirtual 201, 3) := by decide +kernel
theorem dX10_atom_71 : decode cX10_atom 71 = .ok (.aload_n 0, 1) := by decide +kernel
theorem dX10_atom_72 : decode cX10_atom 72 = .ok (.dup, 1) := by decide +kernel
theorem dX10_atom_73 : decode cX10_atom 73 = .ok (.getfield 198, 3) := by decide +kernel
theorem dX10_atom_76 : decode cX10_atom 76 = .ok (.iconst 1, 1) := by decide +kernel
theorem dX10_atom_77 : decode cX10_atom 77 = .ok (.isub, 1) := by decide +kernel
theorem dX10_atom_78 : decode cX10_atom 78 = .ok (.putfield 198, 3) := by decide +kernel
theorem dX10_atom_81 : decode cX10_atom 81 = .ok (.aload_n 0, 1) := by decide +kernel
theorem dX10_atom_82 : decode cX10_atom 82 = .ok (.getfield 187, 3) := by decide +kernel
theorem dX10_atom_85 : decode cX10_atom 85 = .ok (.ifCond .ne 76, 3) := by decide +kernel
theorem dX10_atom_88 : decode cX10_atom 88 = .ok (.aload_n 0, 1) := by decide +kernel
theorem dX10_atom_89 : decode cX10_atom 89 = .ok (.invokevirtual 204, 3) := by decide +kernel
theorem dX10_atom_92 : decode cX10_atom 92 = .ok (.goto 69, 3) := by decide +kernel
theorem dX10_atom_95 : decode cX10_atom 95 = .ok (.aload_n 0, 1) := by decide +kernel
theorem dX10_atom_96 : decode cX10_atom 96 = .ok (.getfield 187, 3) := by decide +kernel
theorem dX10_atom_99 : decode cX10_atom 99 = .ok (.ifCond .ne 24, 3) := by decide +kernel
theorem dX10_atom_102 : decode cX10_atom 102 = .ok (.aload_n 0, 1) := by decide +kernel
theorem dX10_atom_103 : decode cX10_atom 103 = .ok (.getfield 172, 3) := by decide +kernel
theorem dX10_atom_106 : decode cX10_atom 106 = .ok (.iconst 2, 1) := by decide +kernel
theorem dX10_atom_107 : decode cX10_atom 107 = .ok (.if_icmp .ne 16, 3) := by decide +kernel
theorem dX10_atom_110 : decode cX10_atom 110 = .ok (.aload_n 0, 1) := by decide +kernel
theorem dX10_atom_111 : decode cX10_atom 111 = .ok (.getfield 183, 3) := by decide +kernel
theorem dX10_atom_114 : decode cX10_atom 114 = .ok (.l2i, 1) := by decide +kernel
theorem dX10_atom_115 : decode cX10_atom 115 = .ok (.istore_n 1, 1) := by decide +kernel
theorem dX10_atom_116 : decode cX10_atom 116 = .ok (.aload_n 0, 1) := by decide +kernel
theorem dX10_atom_117 : decode cX10_atom 117 = .ok (.invokevirtual 204, 3) := by decide +kernel
theorem dX10_atom_120 : decode cX10_atom 120 = .ok (.goto 41, 3) := by decide +kernel
theorem dX10_atom_123 : decode cX10_atom 123 = .ok (.aload_n 0, 1) := by decide +kernel
theorem dX10_atom_124 : decode cX10_atom 124 = .ok (.getfield 187, 3) := by decide +kernel
theorem dX10_atom_127 : decode cX10_atom 127 = .ok (.ifCond .ne 30, 3) := by decide +kernel
theorem dX10_atom_130 : decode cX10_atom 130 = .ok (.aload_n 0, 1) := by decide +kernel
theorem dX10_atom_131 : decode cX10_atom 131 = .ok (.getfield 172, 3) := by decide +kernel
theorem dX10_atom_134 : decode cX10_atom 134 = .ok (.iconst 1, 1) := by decide +kernel
theorem dX10_atom_135 : decode cX10_atom 135 = .ok (.if_icmp .ne 22, 3) := by decide +kernel
theorem dX10_atom_138 : decode cX10_atom 138 = .ok (.aload_n 0, 1) := by decide +kernel
theorem dX10_atom_139 : decode cX10_atom 139 = .ok (.invokevirtual 243, 3) := by decide +kernel
theorem dX10_atom_142 : decode cX10_atom 142 = .ok (.istore_n 1, 1) := by decide +kernel
theorem dX10_atom_143 : decode cX10_atom 143 = .ok (.aload_n 0, 1) := by decide +kernel
theorem dX10_atom_144 : decode cX10_atom 144 = .ok (.getfield 187, 3) := by decide +kernel
theorem dX10_atom_147 : decode cX10_atom 147 = .ok (.ifCond .ne 14, 3) := by decide +kernel
theorem dX10_atom_150 : decode cX10_atom 150 = .ok (.aload_n 0, 1) := by decide +kernel
theorem dX10_atom_151 : decode cX10_atom 151 = .ok (.invokevirtual 204, 3) := by decide +kernel
theorem dX10_atom_154 : decode cX10_atom 154 = .ok (.goto 7, 3) := by decide +kernel
theorem dX10_atom_157 : decode cX10_atom 157 = .ok (.aload_n 0, 1) := by decide +kernel
theorem dX10_atom_158 : decode cX10_atom 158 = .ok (.invokevirtual 201, 3) := by decide +kernel
theorem dX10_atom_161 : decode cX10_atom 161 = .ok (.iload_n 1, 1) := by decide +kernel
theorem dX10_atom_162 : decode cX10_atom 162 = .ok (.ireturn, 1) := by decide +kernel
theorem dX10_term_0 : decode cX10_term 0 = .ok (.aload_n 0, 1) := by decide +kernel
theorem dX10_term_1 : decode cX10_term 1 = .ok (.invokevirtual 236, 3) := by decide +kernel
theorem dX10_term_4 : decode cX10_term 4 = .ok (.istore_n 1, 1) := by decide +kernel
theorem dX10_term_5 : decode cX10_term 5 = .ok (.aload_n 0, 1) := by decide +kernel
theorem dX10_term_6 : decode cX10_term 6 = .ok (.bipush 42, 2) := by decide +kernel
theorem dX10_term_8 : decode cX10_term 8 = .ok (.invokevirtual 229, 3) := by decide +kernel
theorem dX10_term_11 : decode cX10_term 11 = .ok (.ifCond .eq 17, 3) := by decide +kernel
theorem dX10_term_14 : decode cX10_term 14 = .ok (.aload_n 0, 1) := by decide +kernel
theorem dX10_term_15 : decode cX10_term 15 = .ok (.invokevirtual 204, 3) := by decide +kernel
theorem dX10_term_18 : decode cX10_term 18 = .ok (.iload_n 1, 1) := by decide +kernel
theorem dX10_term_19 : decode cX10_term 19 = .ok (.aload_n 0, 1) := by decide +kernel
theorem dX10_term_20 : decode cX10_term 20 = .ok (.invokevirtual 236, 3) := by decide +kernel
theorem dX10_term_23 : decode cX10_term 23 = .ok (.imul, 1) := by decide +kernel
theorem dX10_term_24 : decode cX10_term 24 = .ok (.istore_n 1, 1) := by decide +kernel
theorem dX10_term_25 : decode cX10_term 25 = .ok (.goto (-20), 3) := by decide +kernel
theorem dX10_term_28 : decode cX10_term 28 = .ok (.iload_n 1, 1) := by decide +kernel
theorem dX10_term_29 : decode cX10_term 29 = .ok (.ireturn, 1) := by decide +kernel
theorem dX10_added_0 : decode cX10_added 0 = .ok (.aload_n 0, 1) := by decide +kernel
theorem dX10_added_1 : decode cX10_added 1 = .ok (.invokevirtual 246, 3) := by decide +kernel
theorem dX10_added_4 : decode cX10_added 4 = .ok (.istore_n 1, 1) := by decide +kernel
theorem dX10_added_5 : decode cX10_added 5 = .ok (.aload_n 0, 1) := by decide +kernel
theorem dX10_added_6 : decode cX10_added 6 = .ok (.bipush 43, 2) := by decide +kernel
theorem dX10_added_8 : decode cX10_added 8 = .ok (.invokevirtual 229, 3) := by decide +kernel
theorem dX10_added_11 : decode cX10_added 11 = .ok (.ifCond .ne 12, 3) := by decide +kernel
theorem dX10_added_14 : decode cX10_added 14 = .ok (.aload_n 0, 1) := by decide +kernel
theorem dX10_added_15 : decode cX10_added 15 = .ok (.bipush 45, 2) := by decide +kernel
theorem dX10_added_17 : decode cX10_added 17 = .ok (.invokevirtual 229, 3) := by decide +kernel
theorem dX10_added_20 : decode cX10_added 20 = .ok (.ifCond .eq 46, 3) := by decide +kernel
theorem dX10_added_23 : decode cX10_added 23 = .ok (.aload_n 0, 1) := by decide +kernel
theorem dX10_added_24 : decode cX10_added 24 = .ok (.getfield 183, 3) := by decide +kernel
theorem dX10_added_27 : decode cX10_added 27 = .ok (.ldc2_w 249, 3) := by decide +kernel
theorem dX10_added_30 : decode cX10_added 30 = .ok (.lcmp, 1) := by decide +kernel
theorem dX10_added_31 : decode cX10_added 31 = .ok (.ifCond .ne 7, 3) := by decide +kernel
theorem dX10_added_34 : decode cX10_added 34 = .ok (.iconst 1, 1) := by decide +kernel
theorem dX10_added_35 : decode cX10_added 35 = .ok (.goto 4, 3) := by decide +kernel
theorem dX10_added_38 : decode cX10_added 38 = .ok (.iconst 0, 1) := by decide +kernel
theorem dX10_added_39 : decode cX10_added 39 = .ok (.istore_n 2, 1) := by decide +kernel
theorem dX10_added_40 : decode cX10_added 40 = .ok (.aload_n 0, 1) := by decide +kernel
theorem dX10_added_41 : decode cX10_added 41 = .ok (.invokevirtual 204, 3) := by decide +kernel
theorem dX10_added_44 : decode cX10_added 44 = .ok (.aload_n 0, 1) := by decide +kernel
theorem dX10_added_45 : decode cX10_added 45 = .ok (.invokevirtual 246, 3) := by decide +kernel
theorem dX10_added_48 : decode cX10_added 48 = .ok (.istore_n 3, 1) := by decide +kernel
theorem dX10_added_49 : decode cX10_added 49 = .ok (.iload_n 2, 1) := by decide +kernel
theorem dX10_added_50 : decode cX10_added 50 = .ok (.ifCond .eq 9, 3) := by decide +kernel
theorem dX10_added_53 : decode cX10_added 53 = .ok (.iload_n 1, 1) := by decide +kernel
theorem dX10_added_54 : decode cX10_added 54 = .ok (.iload_n 3, 1) := by decide +kernel
theorem dX10_added_55 : decode cX10_added 55 = .ok (.iadd, 1) := by decide +kernel
theorem dX10_added_56 : decode cX10_added 56 = .ok (.goto 6, 3) := by decide +kernel
theorem dX10_added_59 : decode cX10_added 59 = .ok (.iload_n 1, 1) := by decide +kernel
theorem dX10_added_60 : decode cX10_added 60 = .ok (.iload_n 3, 1) := by decide +kernel
theorem dX10_added_61 : decode cX10_added 61 = .ok (.isub, 1) := by decide +kernel
theorem dX10_added_62 : decode cX10_added 62 = .ok (.istore_n 1, 1) := by decide +kernel
theorem dX10_added_63 : decode cX10_added 63 = .ok (.goto (-58), 3) := by decide +kernel
theorem dX10_added_66 : decode cX10_added 66 = .ok (.iload_n 1, 1) := by decide +kernel
theorem dX10_added_67 : decode cX10_added 67 = .ok (.ireturn, 1) := by decide +kernel
theorem dX10_not_0 : decode cX10_not 0 = .ok (.aload_n 0, 1) := by decide +kernel
theorem dX10_not_1 : decode cX10_not 1 = .ok (.bipush 110, 2) := by decide +kernel
theorem dX10_not_3 : decode cX10_not 3 = .ok (.bipush 111, 2) := by decide +kernel
theorem dX10_not_5 : decode cX10_not 5 = .ok (.bipush 116, 2) := by decide +kernel
theorem dX10_not_7 : decode cX10_not 7 = .ok (.iconst 0, 1) := by decide +kernel
theorem dX10_not_8 : decode cX10_not 8 = .ok (.iconst 0, 1) := by decide +kernel
theorem dX10_not_9 : decode cX10_not 9 = .ok (.iconst 0, 1) := by decide +kernel
theorem dX10_not_10 : decode cX10_not 10 = .ok (.iconst 0, 1) := by decide +kernel
theorem dX10_not_11 : decode cX10_not 11 = .ok (.iconst 0, 1) := by decide +kernel
theorem dX10_not_12 : decode cX10_not 12 = .ok (.invokevirtual 207, 3) := by decide +kernel
theorem dX10_not_15 : decode cX10_not 15 = .ok (.ifCond .eq 37, 3) := by decide +kernel
theorem dX10_not_18 : decode cX10_not 18 = .ok (.aload_n 0, 1) := by decide +kernel
theorem dX10_not_19 : decode cX10_not 19 = .ok (.invokevirtual 232, 3) := by decide +kernel
theorem dX10_not_22 : decode cX10_not 22 = .ok (.ifCond .ne 5, 3) := by decide +kernel
theorem dX10_not_25 : decode cX10_not 25 = .ok (.iconst 0, 1) := by decide +kernel
theorem dX10_not_26 : decode cX10_not 26 = .ok (.ireturn, 1) := by decide +kernel
theorem dX10_not_27 : decode cX10_not 27 = .ok (.aload_n 0, 1) := by decide +kernel
theorem dX10_not_28 : decode cX10_not 28 = .ok (.invokevirtual 251, 3) := by decide +kernel
theorem dX10_not_31 : decode cX10_not 31 = .ok (.istore_n 1, 1) := by decide +kernel
theorem dX10_not_32 : decode cX10_not 32 = .ok (.aload_n 0, 1) := by decide +kernel
theorem dX10_not_33 : decode cX10_not 33 = .ok (.dup, 1) := by decide +kernel
theorem dX10_not_34 : decode cX10_not 34 = .ok (.getfield 198, 3) := by decide +kernel
theorem dX10_not_37 : decode cX10_not 37 = .ok (.iconst 1, 1) := by decide +kernel
theorem dX10_not_38 : decode cX10_not 38 = .ok (.isub, 1) := by decide +kernel
theorem dX10_not_39 : decode cX10_not 39 = .ok (.putfield 198, 3) := by decide +kernel
theorem dX10_not_42 : decode cX10_not 42 = .ok (.iload_n 1, 1) := by decide +kernel
theorem dX10_not_43 : decode cX10_not 43 = .ok (.ifCond .ne 7, 3) := by decide +kernel
theorem dX10_not_46 : decode cX10_not 46 = .ok (.iconst 1, 1) := by decide +kernel
theorem dX10_not_47 : decode cX10_not 47 = .ok (.goto 4, 3) := by decide +kernel
theorem dX10_not_50 : decode cX10_not 50 = .ok (.iconst 0, 1) := by decide +kernel
theorem dX10_not_51 : decode cX10_not 51 = .ok (.ireturn, 1) := by decide +kernel
theorem dX10_not_52 : decode cX10_not 52 = .ok (.aload_n 0, 1) := by decide +kernel
theorem dX10_not_53 : decode cX10_not 53 = .ok (.invokevirtual 254, 3) := by decide +kernel
theorem dX10_not_56 : decode cX10_not 56 = .ok (.istore_n 1, 1) := by decide +kernel
theorem dX10_not_57 : decode cX10_not 57 = .ok (.aload_n 0, 1) := by decide +kernel
theorem dX10_not_58 : decode cX10_not 58 = .ok (.bipush 60, 2) := by decide +kernel
theorem dX10_not_60 : decode cX10_not 60 = .ok (.invokevirtual 229, 3) := by decide +kernel
theorem dX10_not_63 : decode cX10_not 63 = .ok (.ifCond .ne 14, 3) := by decide +kernel
theorem dX10_not_66 : decode cX10_not 66 = .ok (.aload_n 0, 1) := by decide +kernel
theorem dX10_not_67 : decode cX10_not 67 = .ok (.bipush 61, 2) := by decide +kernel
theorem dX10_not_69 : decode cX10_not 69 = .ok (.invokevirtual 229, 3) := by decide +kernel
theorem dX10_not_72 : decode cX10_not 72 = .ok (.ifCond .ne 5, 3) := by decide +kernel
theorem dX10_not_75 : decode cX10_not 75 = .ok (.iload_n 1, 1) := by decide +kernel
theorem dX10_not_76 : decode cX10_not 76 = .ok (.ireturn, 1) := by decide +kernel
theorem dX10_not_77 : decode cX10_not 77 = .ok (.aload_n 0, 1) := by decide +kernel
theorem dX10_not_78 : decode cX10_not 78 = .ok (.getfield 183, 3) := by decide +kernel
theorem dX10_not_81 : decode cX10_not 81 = .ok (.ldc2_w 257, 3) := by decide +kernel
theorem dX10_not_84 : decode cX10_not 84 = .ok (.lcmp, 1) := by decide +kernel
theorem dX10_not_85 : decode cX10_not 85 = .ok (.ifCond .ne 7, 3) := by decide +kernel
theorem dX10_not_88 : decode cX10_not 88 = .ok (.iconst 1, 1) := by decide +kernel
theorem dX10_not_89 : decode cX10_not 89 = .ok (.goto 4, 3) := by decide +kernel
theorem dX10_not_92 : decode cX10_not 92 = .ok (.iconst 0, 1) := by decide +kernel
theorem dX10_not_93 : decode cX10_not 93 = .ok (.istore_n 2, 1) := by decide +kernel
theorem dX10_not_94 : decode cX10_not 94 = .ok (.aload_n 0, 1) := by decide +kernel
theorem dX10_not_95 : decode cX10_not 95 = .ok (.invokevirtual 204, 3) := by decide +kernel
theorem dX10_not_98 : decode cX10_not 98 = .ok (.aload_n 0, 1) := by decide +kernel
theorem dX10_not_99 : decode cX10_not 99 = .ok (.invokevirtual 254, 3) := by decide +kernel
theorem dX10_not_102 : decode cX10_not 102 = .ok (.istore_n 3, 1) := by decide +kernel
theorem dX10_not_103 : decode cX10_not 103 = .ok (.iload_n 2, 1) := by decide +kernel
theorem dX10_not_104 : decode cX10_not 104 = .ok (.ifCond .eq 11, 3) := by decide +kernel
theorem dX10_not_107 : decode cX10_not 107 = .ok (.iload_n 1, 1) := by decide +kernel
theorem dX10_not_108 : decode cX10_not 108 = .ok (.iload_n 3, 1) := by decide +kernel
theorem dX10_not_109 : decode cX10_not 109 = .ok (.if_icmp .ge 15, 3) := by decide +kernel
theorem dX10_not_112 : decode cX10_not 112 = .ok (.goto 8, 3) := by decide +kernel
theorem dX10_not_115 : decode cX10_not 115 = .ok (.iload_n 1, 1) := by decide +kernel
theorem dX10_not_116 : decode cX10_not 116 = .ok (.iload_n 3, 1) := by decide +kernel
theorem dX10_not_117 : decode cX10_not 117 = .ok (.if_icmp .ne 7, 3) := by decide +kernel
theorem dX10_not_120 : decode cX10_not 120 = .ok (.iconst 1, 1) := by decide +kernel
theorem dX10_not_121 : decode cX10_not 121 = .ok (.goto 4, 3) := by decide +kernel
theorem dX10_not_124 : decode cX10_not 124 = .ok (.iconst 0, 1) := by decide +kernel
theorem dX10_not_125 : decode cX10_not 125 = .ok (.ireturn, 1) := by decide +kernel
theorem dX10_both_0 : decode cX10_both 0 = .ok (.aload_n 0, 1) := by decide +kernel
theorem dX10_both_1 : decode cX10_both 1 = .ok (.invokevirtual 251, 3) := by decide +kernel
theorem dX10_both_4 : decode cX10_both 4 = .ok (.istore_n 1, 1) := by decide +kernel
theorem dX10_both_5 : decode cX10_both 5 = .ok (.aload_n 0, 1) := by decide +kernel
theorem dX10_both_6 : decode cX10_both 6 = .ok (.bipush 97, 2) := by decide +kernel
theorem dX10_both_8 : decode cX10_both 8 = .ok (.bipush 110, 2) := by decide +kernel
theorem dX10_both_10 : decode cX10_both 10 = .ok (.bipush 100, 2) := by decide +kernel
theorem dX10_both_12 : decode cX10_both 12 = .ok (.iconst 0, 1) := by decide +kernel
theorem dX10_both_13 : decode cX10_both 13 = .ok (.iconst 0, 1) := by decide +kernel
theorem dX10_both_14 : decode cX10_both 14 = .ok (.iconst 0, 1) := by decide +kernel
theorem dX10_both_15 : decode cX10_both 15 = .ok (.iconst 0, 1) := by decide +kernel
theorem dX10_both_16 : decode cX10_both 16 = .ok (.iconst 0, 1) := by decide +kernel
theorem dX10_both_17 : decode cX10_both 17 = .ok (.invokevirtual 207, 3) := by decide +kernel
theorem dX10_both_20 : decode cX10_both 20 = .ok (.ifCond .eq 29, 3) := by decide +kernel
theorem dX10_both_23 : decode cX10_both 23 = .ok (.aload_n 0, 1) := by decide +kernel
theorem dX10_both_24 : decode cX10_both 24 = .ok (.invokevirtual 204, 3) := by decide +kernel
theorem dX10_both_27 : decode cX10_both 27 = .ok (.aload_n 0, 1) := by decide +kernel
theorem dX10_both_28 : decode cX10_both 28 = .ok (.invokevirtual 251, 3) := by decide +kernel
theorem dX10_both_31 : decode cX10_both 31 = .ok (.istore_n 2, 1) := by decide +kernel
theorem dX10_both_32 : decode cX10_both 32 = .ok (.iload_n 1, 1) := by decide +kernel
theorem dX10_both_33 : decode cX10_both 33 = .ok (.ifCond .eq 11, 3) := by decide +kernel
theorem dX10_both_36 : decode cX10_both 36 = .ok (.iload_n 2, 1) := by decide +kernel
theorem dX10_both_37 : decode cX10_both 37 = .ok (.ifCond .eq 7, 3) := by decide +kernel
theorem dX10_both_40 : decode cX10_both 40 = .ok (.iconst 1, 1) := by decide +kernel
theorem dX10_both_41 : decode cX10_both 41 = .ok (.goto 4, 3) := by decide +kernel
theorem dX10_both_44 : decode cX10_both 44 = .ok (.iconst 0, 1) := by decide +kernel
theorem dX10_both_45 : decode cX10_both 45 = .ok (.istore_n 1, 1) := by decide +kernel
theorem dX10_both_46 : decode cX10_both 46 = .ok (.goto (-41), 3) := by decide +kernel
theorem dX10_both_49 : decode cX10_both 49 = .ok (.iload_n 1, 1) := by decide +kernel
theorem dX10_both_50 : decode cX10_both 50 = .ok (.ireturn, 1) := by decide +kernel
theorem dX10_either_0 : decode cX10_either 0 = .ok (.aload_n 0, 1) := by decide +kernel
theorem dX10_either_1 : decode cX10_either 1 = .ok (.invokevirtual 259, 3) := by decide +kernel
theorem dX10_either_4 : decode cX10_either 4 = .ok (.istore_n 1, 1) := by decide +kernel
theorem dX10_either_5 : decode cX10_either 5 = .ok (.aload_n 0, 1) := by decide +kernel
theorem dX10_either_6 : decode cX10_either 6 = .ok (.bipush 111, 2) := by decide +kernel
theorem dX10_either_8 : decode cX10_either 8 = .ok (.bipush 114, 2) := by decide +kernel
theorem dX10_either_10 : decode cX10_either 10 = .ok (.iconst 0, 1) := by decide +kernel
theorem dX10_either_11 : decode cX10_either 11 = .ok (.iconst 0, 1) := by decide +kernel
theorem dX10_either_12 : decode cX10_either 12 = .ok (.iconst 0, 1) := by decide +kernel
theorem dX10_either_13 : decode cX10_either 13 = .ok (.iconst 0, 1) := by decide +kernel
theorem dX10_either_14 : decode cX10_either 14 = .ok (.iconst 0, 1) := by decide +kernel
theorem dX10_either_15 : decode cX10_either 15 = .ok (.iconst 0, 1) := by decide +kernel
theorem dX10_either_16 : decode cX10_either 16 = .ok (.invokevirtual 207, 3) := by decide +kernel
theorem dX10_either_19 : decode cX10_either 19 = .ok (.ifCond .eq 29, 3) := by decide +kernel
theorem dX10_either_22 : decode cX10_either 22 = .ok (.aload_n 0, 1) := by decide +kernel
theorem dX10_either_23 : decode cX10_either 23 = .ok (.invokevirtual 204, 3) := by decide +kernel
theorem dX10_either_26 : decode cX10_either 26 = .ok (.aload_n 0, 1) := by decide +kernel
theorem dX10_either_27 : decode cX10_either 27 = .ok (.invokevirtual 259, 3) := by decide +kernel
theorem dX10_either_30 : decode cX10_either 30 = .ok (.istore_n 2, 1) := by decide +kernel
theorem dX10_either_31 : decode cX10_either 31 = .ok (.iload_n 1, 1) := by decide +kernel
theorem dX10_either_32 : decode cX10_either 32 = .ok (.ifCond .ne 7, 3) := by decide +kernel
theorem dX10_either_35 : decode cX10_either 35 = .ok (.iload_n 2, 1) := by decide +kernel
theorem dX10_either_36 : decode cX10_either 36 = .ok (.ifCond .eq 7, 3) := by decide +kernel
theorem dX10_either_39 : decode cX10_either 39 = .ok (.iconst 1, 1) := by decide +kernel
theorem dX10_either_40 : decode cX10_either 40 = .ok (.goto 4, 3) := by decide +kernel
theorem dX10_either_43 : decode cX10_either 43 = .ok (.iconst 0, 1) := by decide +kernel
theorem dX10_either_44 : decode cX10_either 44 = .ok (.istore_n 1, 1) := by decide +kernel
theorem dX10_either_45 : decode cX10_either 45 = .ok (.goto (-40), 3) := by decide +kernel
theorem dX10_either_48 : decode cX10_either 48 = .ok (.iload_n 1, 1) := by decide +kernel
theorem dX10_either_49 : decode cX10_either 49 = .ok (.ireturn, 1) := by decide +kernel
theorem dX10_part_0 : decode cX10_part 0 = .ok (.iload_n 1, 1) := by decide +kernel
theorem dX10_part_1 : decode cX10_part 1 = .ok (.ifCond .ne 7, 3) := by decide +kernel
theorem dX10_part_4 : decode cX10_part 4 = .ok (.aload_n 0, 1) := by decide +kernel
theorem dX10_part_5 : decode cX10_part 5 = .ok (.invokevirtual 201, 3) := by decide +kernel
theorem dX10_part_8 : decode cX10_part 8 = .ok (.aload_n 0, 1) := by decide +kernel
theorem dX10_part_9 : decode cX10_part 9 = .ok (.getfield 187, 3) := by decide +kernel
theorem dX10_part_12 : decode cX10_part 12 = .ok (.ifCond .ne 7, 3) := by decide +kernel
theorem dX10_part_15 : decode cX10_part 15 = .ok (.aload_n 0, 1) := by decide +kernel
theorem dX10_part_16 : decode cX10_part 16 = .ok (.invokevirtual 204, 3) := by decide +kernel
theorem dX10_part_19 : decode cX10_part 19 = .ok (.aload_n 0, 1) := by decide +kernel
theorem dX10_part_20 : decode cX10_part 20 = .ok (.getfield 187, 3) := by decide +kernel
theorem dX10_part_23 : decode cX10_part 23 = .ok (.ifCond .eq 7, 3) := by decide +kernel
theorem dX10_part_26 : decode cX10_part 26 = .ok (.iconst 0, 1) := by decide +kernel
theorem dX10_part_27 : decode cX10_part 27 = .ok (.goto 7, 3) := by decide +kernel
theorem dX10_part_30 : decode cX10_part 30 = .ok (.aload_n 0, 1) := by decide +kernel
theorem dX10_part_31 : decode cX10_part 31 = .ok (.invokevirtual 240, 3) := by decide +kernel
theorem dX10_part_34 : decode cX10_part 34 = .ok (.istore_n 2, 1) := by decide +kernel
theorem dX10_part_35 : decode cX10_part 35 = .ok (.aload_n 0, 1) := by decide +kernel
theorem dX10_part_36 : decode cX10_part 36 = .ok (.bipush 59, 2) := by decide +kernel
theorem dX10_part_38 : decode cX10_part 38 = .ok (.invokevirtual 229, 3) := by decide +kernel
theorem dX10_part_41 : decode cX10_part 41 = .ok (.ifCond .ne 7, 3) := by decide +kernel
theorem dX10_part_44 : decode cX10_part 44 = .ok (.aload_n 0, 1) := by decide +kernel
theorem dX10_part_45 : decode cX10_part 45 = .ok (.invokevirtual 201, 3) := by decide +kernel
theorem dX10_part_48 : decode cX10_part 48 = .ok (.aload_n 0, 1) := by decide +kernel
theorem dX10_part_49 : decode cX10_part 49 = .ok (.getfield 187, 3) := by decide +kernel
theorem dX10_part_52 : decode cX10_part 52 = .ok (.ifCond .ne 7, 3) := by decide +kernel
theorem dX10_part_55 : decode cX10_part 55 = .ok (.aload_n 0, 1) := by decide +kernel
theorem dX10_part_56 : decode cX10_part 56 = .ok (.invokevirtual 204, 3) := by decide +kernel
theorem dX10_part_59 : decode cX10_part 59 = .ok (.iload_n 2, 1) := by decide +kernel
theorem dX10_part_60 : decode cX10_part 60 = .ok (.ireturn, 1) := by decide +kernel
theorem dX10_read_0 : decode cX10_read 0 = .ok (.aload_n 0, 1) := by decide +kernel
theorem dX10_read_1 : decode cX10_read 1 = .ok (.sipush 160, 3) := by decide +kernel
theorem dX10_read_4 : decode cX10_read 4 = .ok (.iload_n 1, 1) := by decide +kernel
theorem dX10_read_5 : decode cX10_read 5 = .ok (.imul, 1) := by decide +kernel
theorem dX10_read_6 : decode cX10_read 6 = .ok (.putfield 160, 3) := by decide +kernel
theorem dX10_read_9 : decode cX10_read 9 = .ok (.aload_n 0, 1) := by decide +kernel
theorem dX10_read_10 : decode cX10_read 10 = .ok (.aload_n 0, 1) := by decide +kernel
theorem dX10_read_11 : decode cX10_read 11 = .ok (.getfield 17, 3) := by decide +kernel
theorem dX10_read_14 : decode cX10_read 14 = .ok (.iload_n 1, 1) := by decide +kernel
theorem dX10_read_15 : decode cX10_read 15 = .ok (.iaload, 1) := by decide +kernel
theorem dX10_read_16 : decode cX10_read 16 = .ok (.putfield 157, 3) := by decide +kernel
theorem dX10_read_19 : decode cX10_read 19 = .ok (.aload_n 0, 1) := by decide +kernel
theorem dX10_read_20 : decode cX10_read 20 = .ok (.iconst 0, 1) := by decide +kernel
theorem dX10_read_21 : decode cX10_read 21 = .ok (.putfield 163, 3) := by decide +kernel
theorem dX10_read_24 : decode cX10_read 24 = .ok (.aload_n 0, 1) := by decide +kernel
theorem dX10_read_25 : decode cX10_read 25 = .ok (.iconst 0, 1) := by decide +kernel
theorem dX10_read_26 : decode cX10_read 26 = .ok (.putfield 198, 3) := by decide +kernel
theorem dX10_read_29 : decode cX10_read 29 = .ok (.aload_n 0, 1) := by decide +kernel
theorem dX10_read_30 : decode cX10_read 30 = .ok (.iconst 0, 1) := by decide +kernel
theorem dX10_read_31 : decode cX10_read 31 = .ok (.putfield 187, 3) := by decide +kernel
theorem dX10_read_34 : decode cX10_read 34 = .ok (.aload_n 0, 1) := by decide +kernel
theorem dX10_read_35 : decode cX10_read 35 = .ok (.invokevirtual 204, 3) := by decide +kernel
theorem dX10_read_38 : decode cX10_read 38 = .ok (.aload_n 0, 1) := by decide +kernel
theorem dX10_read_39 : decode cX10_read 39 = .ok (.aload_n 0, 1) := by decide +kernel
theorem dX10_read_40 : decode cX10_read 40 = .ok (.bipush 115, 2) := by decide +kernel
theorem dX10_read_42 : decode cX10_read 42 = .ok (.bipush 101, 2) := by decide +kernel
theorem dX10_read_44 : decode cX10_read 44 = .ok (.bipush 114, 2) := by decide +kernel
theorem dX10_read_46 : decode cX10_read 46 = .ok (.bipush 118, 2) := by decide +kernel
theorem dX10_read_48 : decode cX10_read 48 = .ok (.bipush 101, 2) := by decide +kernel
theorem dX10_read_50 : decode cX10_read 50 = .ok (.bipush 115, 2) := by decide +kernel
theorem dX10_read_52 : decode cX10_read 52 = .ok (.iconst 0, 1) := by decide +kernel
theorem dX10_read_53 : decode cX10_read 53 = .ok (.iconst 0, 1) := by decide +kernel
theorem dX10_read_54 : decode cX10_read 54 = .ok (.invokevirtual 207, 3) := by decide +kernel
theorem dX10_read_57 : decode cX10_read 57 = .ok (.invokevirtual 262, 3) := by decide +kernel
theorem dX10_read_60 : decode cX10_read 60 = .ok (.istore_n 3, 1) := by decide +kernel
theorem dX10_read_61 : decode cX10_read 61 = .ok (.aload_n 0, 1) := by decide +kernel
theorem dX10_read_62 : decode cX10_read 62 = .ok (.getfield 187, 3) := by decide +kernel
theorem dX10_read_65 : decode cX10_read 65 = .ok (.ifCond .eq 7, 3) := by decide +kernel
theorem dX10_read_68 : decode cX10_read 68 = .ok (.iconst 0, 1) := by decide +kernel
theorem dX10_read_69 : decode cX10_read 69 = .ok (.goto 23, 3) := by decide +kernel
theorem dX10_read_72 : decode cX10_read 72 = .ok (.aload_n 0, 1) := by decide +kernel
theorem dX10_read_73 : decode cX10_read 73 = .ok (.aload_n 0, 1) := by decide +kernel
theorem dX10_read_74 : decode cX10_read 74 = .ok (.bipush 97, 2) := by decide +kernel
theorem dX10_read_76 : decode cX10_read 76 = .ok (.bipush 100, 2) := by decide +kernel
theorem dX10_read_78 : decode cX10_read 78 = .ok (.bipush 100, 2) := by decide +kernel
theorem dX10_read_80 : decode cX10_read 80 = .ok (.bipush 115, 2) := by decide +kernel
theorem dX10_read_82 : decode cX10_read 82 = .ok (.iconst 0, 1) := by decide +kernel
theorem dX10_read_83 : decode cX10_read 83 = .ok (.iconst 0, 1) := by decide +kernel
theorem dX10_read_84 : decode cX10_read 84 = .ok (.iconst 0, 1) := by decide +kernel
theorem dX10_read_85 : decode cX10_read 85 = .ok (.iconst 0, 1) := by decide +kernel
theorem dX10_read_86 : decode cX10_read 86 = .ok (.invokevirtual 207, 3) := by decide +kernel
theorem dX10_read_89 : decode cX10_read 89 = .ok (.invokevirtual 262, 3) := by decide +kernel
theorem dX10_read_92 : decode cX10_read 92 = .ok (.istore 4, 2) := by decide +kernel
theorem dX10_read_94 : decode cX10_read 94 = .ok (.aload_n 0, 1) := by decide +kernel
theorem dX10_read_95 : decode cX10_read 95 = .ok (.getfield 187, 3) := by decide +kernel
theorem dX10_read_98 : decode cX10_read 98 = .ok (.ifCond .eq 7, 3) := by decide +kernel
theorem dX10_read_101 : decode cX10_read 101 = .ok (.iconst 0, 1) := by decide +kernel
theorem dX10_read_102 : decode cX10_read 102 = .ok (.goto 24, 3) := by decide +kernel
theorem dX10_read_105 : decode cX10_read 105 = .ok (.aload_n 0, 1) := by decide +kernel
theorem dX10_read_106 : decode cX10_read 106 = .ok (.aload_n 0, 1) := by decide +kernel
theorem dX10_read_107 : decode cX10_read 107 = .ok (.bipush 103, 2) := by decide +kernel
theorem dX10_read_109 : decode cX10_read 109 = .ok (.bipush 97, 2) := by decide +kernel
theorem dX10_read_111 : decode cX10_read 111 = .ok (.bipush 105, 2) := by decide +kernel
theorem dX10_read_113 : decode cX10_read 113 = .ok (.bipush 110, 2) := by decide +kernel
theorem dX10_read_115 : decode cX10_read 115 = .ok (.bipush 115, 2) := by decide +kernel
theorem dX10_read_117 : decode cX10_read 117 = .ok (.iconst 0, 1) := by decide +kernel
theorem dX10_read_118 : decode cX10_read 118 = .ok (.iconst 0, 1) := by decide +kernel
theorem dX10_read_119 : decode cX10_read 119 = .ok (.iconst 0, 1) := by decide +kernel
theorem dX10_read_120 : decode cX10_read 120 = .ok (.invokevirtual 207, 3) := by decide +kernel
theorem dX10_read_123 : decode cX10_read 123 = .ok (.invokevirtual 262, 3) := by decide +kernel
theorem dX10_read_126 : decode cX10_read 126 = .ok (.istore 5, 2) := by decide +kernel
theorem dX10_read_128 : decode cX10_read 128 = .ok (.aload_n 0, 1) := by decide +kernel
theorem dX10_read_129 : decode cX10_read 129 = .ok (.getfield 187, 3) := by decide +kernel
theorem dX10_read_132 : decode cX10_read 132 = .ok (.ifCond .ne 14, 3) := by decide +kernel
theorem dX10_read_135 : decode cX10_read 135 = .ok (.aload_n 0, 1) := by decide +kernel
theorem dX10_read_136 : decode cX10_read 136 = .ok (.getfield 172, 3) := by decide +kernel
theorem dX10_read_139 : decode cX10_read 139 = .ok (.ifCond .eq 7, 3) := by decide +kernel
theorem dX10_read_142 : decode cX10_read 142 = .ok (.aload_n 0, 1) := by decide +kernel
theorem dX10_read_143 : decode cX10_read 143 = .ok (.invokevirtual 201, 3) := by decide +kernel
theorem dX10_read_146 : decode cX10_read 146 = .ok (.iload_n 2, 1) := by decide +kernel
theorem dX10_read_147 : decode cX10_read 147 = .ok (.ifCond .ne 7, 3) := by decide +kernel
theorem dX10_read_150 : decode cX10_read 150 = .ok (.iload_n 3, 1) := by decide +kernel
theorem dX10_read_151 : decode cX10_read 151 = .ok (.goto 15, 3) := by decide +kernel
theorem dX10_read_154 : decode cX10_read 154 = .ok (.iload_n 2, 1) := by decide +kernel
theorem dX10_read_155 : decode cX10_read 155 = .ok (.iconst 1, 1) := by decide +kernel
theorem dX10_read_156 : decode cX10_read 156 = .ok (.if_icmp .ne 8, 3) := by decide +kernel
theorem dX10_read_159 : decode cX10_read 159 = .ok (.iload 4, 2) := by decide +kernel
theorem dX10_read_161 : decode cX10_read 161 = .ok (.goto 5, 3) := by decide +kernel
theorem dX10_read_164 : decode cX10_read 164 = .ok (.iload 5, 2) := by decide +kernel
theorem dX10_read_166 : decode cX10_read 166 = .ok (.ireturn, 1) := by decide +kernel
theorem dX10_text_0 : decode cX10_text 0 = .ok (.aload_n 0, 1) := by decide +kernel
theorem dX10_text_1 : decode cX10_text 1 = .ok (.getfield 100, 3) := by decide +kernel
theorem dX10_text_4 : decode cX10_text 4 = .ok (.bipush 6, 2) := by decide +kernel
theorem dX10_text_6 : decode cX10_text 6 = .ok (.if_icmp .ne 6, 3) := by decide +kernel
theorem dX10_text_9 : decode cX10_text 9 = .ok (.bipush (-4), 2) := by decide +kernel
theorem dX10_text_11 : decode cX10_text 11 = .ok (.ireturn, 1) := by decide +kernel
theorem dX10_text_12 : decode cX10_text 12 = .ok (.iconst 0, 1) := by decide +kernel
theorem dX10_text_13 : decode cX10_text 13 = .ok (.istore_n 1, 1) := by decide +kernel
theorem dX10_text_14 : decode cX10_text 14 = .ok (.iload_n 1, 1) := by decide +kernel
theorem dX10_text_15 : decode cX10_text 15 = .ok (.aload_n 0, 1) := by decide +kernel
theorem dX10_text_16 : decode cX10_text 16 = .ok (.getfield 154, 3) := by decide +kernel
theorem dX10_text_19 : decode cX10_text 19 = .ok (.if_icmp .ge 30, 3) := by decide +kernel
theorem dX10_text_22 : decode cX10_text 22 = .ok (.aload_n 0, 1) := by decide +kernel
theorem dX10_text_23 : decode cX10_text 23 = .ok (.getfield 13, 3) := by decide +kernel
theorem dX10_text_26 : decode cX10_text 26 = .ok (.sipush 160, 3) := by decide +kernel
theorem dX10_text_29 : decode cX10_text 29 = .ok (.aload_n 0, 1) := by decide +kernel
theorem dX10_text_30 : decode cX10_text 30 = .ok (.getfield 100, 3) := by decide +kernel
theorem dX10_text_33 : decode cX10_text 33 = .ok (.imul, 1) := by decide +kernel
theorem dX10_text_34 : decode cX10_text 34 = .ok (.iload_n 1, 1) := by decide +kernel
theorem dX10_text_35 : decode cX10_text 35 = .ok (.iadd, 1) := by decide +kernel
theorem dX10_text_36 : decode cX10_text 36 = .ok (.aload_n 0, 1) := by decide +kernel
theorem dX10_text_37 : decode cX10_text 37 = .ok (.getfield 20, 3) := by decide +kernel
theorem dX10_text_40 : decode cX10_text 40 = .ok (.iload_n 1, 1) := by decide +kernel
theorem dX10_text_41 : decode cX10_text 41 = .ok (.iaload, 1) := by decide +kernel
theorem dX10_text_42 : decode cX10_text 42 = .ok (.iastore, 1) := by decide +kernel
theorem dX10_text_43 : decode cX10_text 43 = .ok (.iinc 1 1, 3) := by decide +kernel
theorem dX10_text_46 : decode cX10_text 46 = .ok (.goto (-32), 3) := by decide +kernel
theorem dX10_text_49 : decode cX10_text 49 = .ok (.aload_n 0, 1) := by decide +kernel
theorem dX10_text_50 : decode cX10_text 50 = .ok (.getfield 17, 3) := by decide +kernel
theorem dX10_text_53 : decode cX10_text 53 = .ok (.aload_n 0, 1) := by decide +kernel
theorem dX10_text_54 : decode cX10_text 54 = .ok (.getfield 100, 3) := by decide +kernel
theorem dX10_text_57 : decode cX10_text 57 = .ok (.aload_n 0, 1) := by decide +kernel
theorem dX10_text_58 : decode cX10_text 58 = .ok (.getfield 154, 3) := by decide +kernel
theorem dX10_text_61 : decode cX10_text 61 = .ok (.iastore, 1) := by decide +kernel
theorem dX10_text_62 : decode cX10_text 62 = .ok (.aload_n 0, 1) := by decide +kernel
theorem dX10_text_63 : decode cX10_text 63 = .ok (.iconst 0, 1) := by decide +kernel
theorem dX10_text_64 : decode cX10_text 64 = .ok (.putfield 154, 3) := by decide +kernel
theorem dX10_text_67 : decode cX10_text 67 = .ok (.aload_n 0, 1) := by decide +kernel
theorem dX10_text_68 : decode cX10_text 68 = .ok (.aload_n 0, 1) := by decide +kernel
theorem dX10_text_69 : decode cX10_text 69 = .ok (.getfield 100, 3) := by decide +kernel
theorem dX10_text_72 : decode cX10_text 72 = .ok (.iconst 0, 1) := by decide +kernel
theorem dX10_text_73 : decode cX10_text 73 = .ok (.invokevirtual 266, 3) := by decide +kernel
theorem dX10_text_76 : decode cX10_text 76 = .ok (.istore_n 1, 1) := by decide +kernel
theorem dX10_text_77 : decode cX10_text 77 = .ok (.aload_n 0, 1) := by decide +kernel
theorem dX10_text_78 : decode cX10_text 78 = .ok (.getfield 187, 3) := by decide +kernel
theorem dX10_text_81 : decode cX10_text 81 = .ok (.ifCond .eq 11, 3) := by decide +kernel
theorem dX10_text_84 : decode cX10_text 84 = .ok (.bipush (-100), 2) := by decide +kernel
theorem dX10_text_86 : decode cX10_text 86 = .ok (.aload_n 0, 1) := by decide +kernel
theorem dX10_text_87 : decode cX10_text 87 = .ok (.getfield 191, 3) := by decide +kernel
theorem dX10_text_90 : decode cX10_text 90 = .ok (.isub, 1) := by decide +kernel
theorem dX10_text_91 : decode cX10_text 91 = .ok (.ireturn, 1) := by decide +kernel
theorem dX10_text_92 : decode cX10_text 92 = .ok (.aload_n 0, 1) := by decide +kernel
theorem dX10_text_93 : decode cX10_text 93 = .ok (.dup, 1) := by decide +kernel
theorem dX10_text_94 : decode cX10_text 94 = .ok (.getfield 100, 3) := by decide +kernel
theorem dX10_text_97 : decode cX10_text 97 = .ok (.iconst 1, 1) := by decide +kernel
theorem dX10_text_98 : decode cX10_text 98 = .ok (.iadd, 1) := by decide +kernel
theorem dX10_text_99 : decode cX10_text 99 = .ok (.putfield 100, 3) := by decide +kernel
theorem dX10_text_102 : decode cX10_text 102 = .ok (.aload_n 0, 1) := by decide +kernel
theorem dX10_text_103 : decode cX10_text 103 = .ok (.getfield 100, 3) := by decide +kernel
theorem dX10_text_106 : decode cX10_text 106 = .ok (.iconst 1, 1) := by decide +kernel
theorem dX10_text_107 : decode cX10_text 107 = .ok (.isub, 1) := by decide +kernel
theorem dX10_text_108 : decode cX10_text 108 = .ok (.ireturn, 1) := by decide +kernel
theorem dX10_force_0 : decode cX10_force 0 = .ok (.iload_n 1, 1) := by decide +kernel
theorem dX10_force_1 : decode cX10_force 1 = .ok (.i2l, 1) := by decide +kernel
theorem dX10_force_2 : decode cX10_force 2 = .ok (.lconst 0, 1) := by decide +kernel
theorem dX10_force_3 : decode cX10_force 3 = .ok (.aload_n 0, 1) := by decide +kernel
theorem dX10_force_4 : decode cX10_force 4 = .ok (.getfield 100, 3) := by decide +kernel
theorem dX10_force_7 : decode cX10_force 7 = .ok (.iconst 1, 1) := by decide +kernel
theorem dX10_force_8 : decode cX10_force 8 = .ok (.isub, 1) := by decide +kernel
theorem dX10_force_9 : decode cX10_force 9 = .ok (.i2l, 1) := by decide +kernel
theorem dX10_force_10 : decode cX10_force 10 = .ok (.invokestatic 106, 3) := by decide +kernel
theorem dX10_force_13 : decode cX10_force 13 = .ok (.ifCond .ne 6, 3) := by decide +kernel
theorem dX10_force_16 : decode cX10_force 16 = .ok (.bipush (-2), 2) := by decide +kernel
theorem dX10_force_18 : decode cX10_force 18 = .ok (.ireturn, 1) := by decide +kernel
theorem dX10_force_19 : decode cX10_force 19 = .ok (.aload_n 0, 1) := by decide +kernel
theorem dX10_force_20 : decode cX10_force 20 = .ok (.getfield 270, 3) := by decide +kernel
theorem dX10_force_23 : decode cX10_force 23 = .ok (.istore_n 2, 1) := by decide +kernel
theorem dX10_force_24 : decode cX10_force 24 = .ok (.aload_n 0, 1) := by decide +kernel
theorem dX10_force_25 : decode cX10_force 25 = .ok (.iload_n 1, 1) := by decide +kernel
theorem dX10_force_26 : decode cX10_force 26 = .ok (.putfield 270, 3) := by decide +kernel
theorem dX10_force_29 : decode cX10_force 29 = .ok (.iload_n 2, 1) := by decide +kernel
theorem dX10_force_30 : decode cX10_force 30 = .ok (.ireturn, 1) := by decide +kernel
theorem dX10_yearsIn_0 : decode cX10_yearsIn 0 = .ok (.aload_n 0, 1) := by decide +kernel
theorem dX10_yearsIn_1 : decode cX10_yearsIn 1 = .ok (.getfield 29, 3) := by decide +kernel
theorem dX10_yearsIn_4 : decode cX10_yearsIn 4 = .ok (.iload_n 1, 1) := by decide +kernel
theorem dX10_yearsIn_5 : decode cX10_yearsIn 5 = .ok (.iaload, 1) := by decide +kernel
theorem dX10_yearsIn_6 : decode cX10_yearsIn 6 = .ok (.istore_n 3, 1) := by decide +kernel
theorem dX10_yearsIn_7 : decode cX10_yearsIn 7 = .ok (.iconst 1, 1) := by decide +kernel
theorem dX10_yearsIn_8 : decode cX10_yearsIn 8 = .ok (.istore 4, 2) := by decide +kernel
theorem dX10_yearsIn_10 : decode cX10_yearsIn 10 = .ok (.iload 4, 2) := by decide +kernel
theorem dX10_yearsIn_12 : decode cX10_yearsIn 12 = .ok (.iload_n 2, 1) := by decide +kernel
theorem dX10_yearsIn_13 : decode cX10_yearsIn 13 = .ok (.if_icmp .gt 36, 3) := by decide +kernel
theorem dX10_yearsIn_16 : decode cX10_yearsIn 16 = .ok (.iload_n 3, 1) := by decide +kernel
theorem dX10_yearsIn_17 : decode cX10_yearsIn 17 = .ok (.aload_n 0, 1) := by decide +kernel
theorem dX10_yearsIn_18 : decode cX10_yearsIn 18 = .ok (.getfield 141, 3) := by decide +kernel
theorem dX10_yearsIn_21 : decode cX10_yearsIn 21 = .ok (.iload 4, 2) := by decide +kernel
theorem dX10_yearsIn_23 : decode cX10_yearsIn 23 = .ok (.iadd, 1) := by decide +kernel
theorem dX10_yearsIn_24 : decode cX10_yearsIn 24 = .ok (.bipush 52, 2) := by decide +kernel
theorem dX10_yearsIn_26 : decode cX10_yearsIn 26 = .ok (.irem, 1) := by decide +kernel
theorem dX10_yearsIn_27 : decode cX10_yearsIn 27 = .ok (.aload_n 0, 1) := by decide +kernel
theorem dX10_yearsIn_28 : decode cX10_yearsIn 28 = .ok (.getfield 26, 3) := by decide +kernel
theorem dX10_yearsIn_31 : decode cX10_yearsIn 31 = .ok (.iload_n 1, 1) := by decide +kernel
theorem dX10_yearsIn_32 : decode cX10_yearsIn 32 = .ok (.iaload, 1) := by decide +kernel
theorem dX10_yearsIn_33 : decode cX10_yearsIn 33 = .ok (.if_icmp .ne 7, 3) := by decide +kernel
theorem dX10_yearsIn_36 : decode cX10_yearsIn 36 = .ok (.iconst 1, 1) := by decide +kernel
theorem dX10_yearsIn_37 : decode cX10_yearsIn 37 = .ok (.goto 4, 3) := by decide +kernel
theorem dX10_yearsIn_40 : decode cX10_yearsIn 40 = .ok (.iconst 0, 1) := by decide +kernel
theorem dX10_yearsIn_41 : decode cX10_yearsIn 41 = .ok (.iadd, 1) := by decide +kernel
theorem dX10_yearsIn_42 : decode cX10_yearsIn 42 = .ok (.istore_n 3, 1) := by decide +kernel
theorem dX10_yearsIn_43 : decode cX10_yearsIn 43 = .ok (.iinc 4 1, 3) := by decide +kernel
theorem dX10_yearsIn_46 : decode cX10_yearsIn 46 = .ok (.goto (-36), 3) := by decide +kernel
theorem dX10_yearsIn_49 : decode cX10_yearsIn 49 = .ok (.iload_n 3, 1) := by decide +kernel
theorem dX10_yearsIn_50 : decode cX10_yearsIn 50 = .ok (.bipush 99, 2) := by decide +kernel
theorem dX10_yearsIn_52 : decode cX10_yearsIn 52 = .ok (.if_icmp .le 8, 3) := by decide +kernel
theorem dX10_yearsIn_55 : decode cX10_yearsIn 55 = .ok (.bipush 99, 2) := by decide +kernel
theorem dX10_yearsIn_57 : decode cX10_yearsIn 57 = .ok (.goto 4, 3) := by decide +kernel
theorem dX10_yearsIn_60 : decode cX10_yearsIn 60 = .ok (.iload_n 3, 1) := by decide +kernel
theorem dX10_yearsIn_61 : decode cX10_yearsIn 61 = .ok (.ireturn, 1) := by decide +kernel
theorem dX10_years_0 : decode cX10_years 0 = .ok (.aload_n 0, 1) := by decide +kernel
theorem dX10_years_1 : decode cX10_years 1 = .ok (.iload_n 1, 1) := by decide +kernel
theorem dX10_years_2 : decode cX10_years 2 = .ok (.invokevirtual 132, 3) := by decide +kernel
theorem dX10_years_5 : decode cX10_years 5 = .ok (.ifCond .eq 24, 3) := by decide +kernel
theorem dX10_years_8 : decode cX10_years 8 = .ok (.iload_n 2, 1) := by decide +kernel
theorem dX10_years_9 : decode cX10_years 9 = .ok (.i2l, 1) := by decide +kernel
theorem dX10_years_10 : decode cX10_years 10 = .ok (.lconst 0, 1) := by decide +kernel
theorem dX10_years_11 : decode cX10_years 11 = .ok (.ldc2_w 273, 3) := by decide +kernel
theorem dX10_years_14 : decode cX10_years 14 = .ok (.invokestatic 106, 3) := by decide +kernel
theorem dX10_years_17 : decode cX10_years 17 = .ok (.ifCond .eq 12, 3) := by decide +kernel
theorem dX10_years_20 : decode cX10_years 20 = .ok (.aload_n 0, 1) := by decide +kernel
theorem dX10_years_21 : decode cX10_years 21 = .ok (.iload_n 1, 1) := by decide +kernel
theorem dX10_years_22 : decode cX10_years 22 = .ok (.iload_n 2, 1) := by decide +kernel
theorem dX10_years_23 : decode cX10_years 23 = .ok (.invokevirtual 275, 3) := by decide +kernel
theorem dX10_years_26 : decode cX10_years 26 = .ok (.goto 5, 3) := by decide +kernel
theorem dX10_years_29 : decode cX10_years 29 = .ok (.bipush (-2), 2) := by decide +kernel
theorem dX10_years_31 : decode cX10_years 31 = .ok (.ireturn, 1) := by decide +kernel
theorem dX10_about_0 : decode cX10_about 0 = .ok (.aload_n 0, 1) := by decide +kernel
theorem dX10_about_1 : decode cX10_about 1 = .ok (.aload_n 0, 1) := by decide +kernel
theorem dX10_about_2 : decode cX10_about 2 = .ok (.iload_n 1, 1) := by decide +kernel
theorem dX10_about_3 : decode cX10_about 3 = .ok (.iload_n 3, 1) := by decide +kernel
theorem dX10_about_4 : decode cX10_about 4 = .ok (.invokevirtual 275, 3) := by decide +kernel
theorem dX10_about_7 : decode cX10_about 7 = .ok (.putfield 211, 3) := by decide +kernel
theorem dX10_about_10 : decode cX10_about 10 = .ok (.aload_n 0, 1) := by decide +kernel
theorem dX10_about_11 : decode cX10_about 11 = .ok (.iconst 0, 1) := by decide +kernel
theorem dX10_about_12 : decode cX10_about 12 = .ok (.putfield 214, 3) := by decide +kernel
theorem dX10_about_15 : decode cX10_about 15 = .ok (.aload_n 0, 1) := by decide +kernel
theorem dX10_about_16 : decode cX10_about 16 = .ok (.iconst 0, 1) := by decide +kernel
theorem dX10_about_17 : decode cX10_about 17 = .ok (.putfield 217, 3) := by decide +kernel
theorem dX10_about_20 : decode cX10_about 20 = .ok (.aload_n 0, 1) := by decide +kernel
theorem dX10_about_21 : decode cX10_about 21 = .ok (.iconst 1, 1) := by decide +kernel
theorem dX10_about_22 : decode cX10_about 22 = .ok (.putfield 226, 3) := by decide +kernel
theorem dX10_about_25 : decode cX10_about 25 = .ok (.iconst 0, 1) := by decide +kernel
theorem dX10_about_26 : decode cX10_about 26 = .ok (.istore 4, 2) := by decide +kernel
theorem dX10_about_28 : decode cX10_about 28 = .ok (.iload 4, 2) := by decide +kernel
theorem dX10_about_30 : decode cX10_about 30 = .ok (.aload_n 0, 1) := by decide +kernel
theorem dX10_about_31 : decode cX10_about 31 = .ok (.getfield 110, 3) := by decide +kernel
theorem dX10_about_34 : decode cX10_about 34 = .ok (.if_icmp .ge 67, 3) := by decide +kernel
theorem dX10_about_37 : decode cX10_about 37 = .ok (.iload_n 2, 1) := by decide +kernel
theorem dX10_about_38 : decode cX10_about 38 = .ok (.iload 4, 2) := by decide +kernel
theorem dX10_about_40 : decode cX10_about 40 = .ok (.ishr, 1) := by decide +kernel
theorem dX10_about_41 : decode cX10_about 41 = .ok (.iconst 1, 1) := by decide +kernel
theorem dX10_about_42 : decode cX10_about 42 = .ok (.iand, 1) := by decide +kernel
theorem dX10_about_43 : decode cX10_about 43 = .ok (.iconst 1, 1) := by decide +kernel
theorem dX10_about_44 : decode cX10_about 44 = .ok (.if_icmp .ne 51, 3) := by decide +kernel
theorem dX10_about_47 : decode cX10_about 47 = .ok (.aload_n 0, 1) := by decide +kernel
theorem dX10_about_48 : decode cX10_about 48 = .ok (.dup, 1) := by decide +kernel
theorem dX10_about_49 : decode cX10_about 49 = .ok (.getfield 214, 3) := by decide +kernel
theorem dX10_about_52 : decode cX10_about 52 = .ok (.aload_n 0, 1) := by decide +kernel
theorem dX10_about_53 : decode cX10_about 53 = .ok (.getfield 38, 3) := by decide +kernel
theorem dX10_about_56 : decode cX10_about 56 = .ok (.iload 4, 2) := by decide +kernel
theorem dX10_about_58 : decode cX10_about 58 = .ok (.iaload, 1) := by decide +kernel
theorem dX10_about_59 : decode cX10_about 59 = .ok (.iadd, 1) := by decide +kernel
theorem dX10_about_60 : decode cX10_about 60 = .ok (.putfield 214, 3) := by decide +kernel
theorem dX10_about_63 : decode cX10_about 63 = .ok (.aload_n 0, 1) := by decide +kernel
theorem dX10_about_64 : decode cX10_about 64 = .ok (.dup, 1) := by decide +kernel
theorem dX10_about_65 : decode cX10_about 65 = .ok (.getfield 217, 3) := by decide +kernel
theorem dX10_about_68 : decode cX10_about 68 = .ok (.aload_n 0, 1) := by decide +kernel
theorem dX10_about_69 : decode cX10_about 69 = .ok (.getfield 41, 3) := by decide +kernel
theorem dX10_about_72 : decode cX10_about 72 = .ok (.iload 4, 2) := by decide +kernel
theorem dX10_about_74 : decode cX10_about 74 = .ok (.iaload, 1) := by decide +kernel
theorem dX10_about_75 : decode cX10_about 75 = .ok (.iadd, 1) := by decide +kernel
theorem dX10_about_76 : decode cX10_about 76 = .ok (.putfield 217, 3) := by decide +kernel
theorem dX10_about_79 : decode cX10_about 79 = .ok (.aload_n 0, 1) := by decide +kernel
theorem dX10_about_80 : decode cX10_about 80 = .ok (.getfield 44, 3) := by decide +kernel
theorem dX10_about_83 : decode cX10_about 83 = .ok (.iload 4, 2) := by decide +kernel
theorem dX10_about_85 : decode cX10_about 85 = .ok (.iaload, 1) := by decide +kernel
theorem dX10_about_86 : decode cX10_about 86 = .ok (.iload_n 1, 1) := by decide +kernel
theorem dX10_about_87 : decode cX10_about 87 = .ok (.if_icmp .eq 8, 3) := by decide +kernel
theorem dX10_about_90 : decode cX10_about 90 = .ok (.aload_n 0, 1) := by decide +kernel
theorem dX10_about_91 : decode cX10_about 91 = .ok (.iconst 0, 1) := by decide +kernel
theorem dX10_about_92 : decode cX10_about 92 = .ok (.putfield 226, 3) := by decide +kernel
theorem dX10_about_95 : decode cX10_about 95 = .ok (.iinc 4 1, 3) := by decide +kernel
theorem dX10_about_98 : decode cX10_about 98 = .ok (.goto (-70), 3) := by decide +kernel
theorem dX10_about_101 : decode cX10_about 101 = .ok (.aload_n 0, 1) := by decide +kernel
theorem dX10_about_102 : decode cX10_about 102 = .ok (.aload_n 0, 1) := by decide +kernel
theorem dX10_about_103 : decode cX10_about 103 = .ok (.getfield 141, 3) := by decide +kernel
theorem dX10_about_106 : decode cX10_about 106 = .ok (.iload_n 3, 1) := by decide +kernel
theorem dX10_about_107 : decode cX10_about 107 = .ok (.iadd, 1) := by decide +kernel
theorem dX10_about_108 : decode cX10_about 108 = .ok (.bipush 52, 2) := by decide +kernel
theorem dX10_about_110 : decode cX10_about 110 = .ok (.irem, 1) := by decide +kernel
theorem dX10_about_111 : decode cX10_about 111 = .ok (.putfield 220, 3) := by decide +kernel
theorem dX10_about_114 : decode cX10_about 114 = .ok (.aload_n 0, 1) := by decide +kernel
theorem dX10_about_115 : decode cX10_about 115 = .ok (.aload_n 0, 1) := by decide +kernel
theorem dX10_about_116 : decode cX10_about 116 = .ok (.getfield 32, 3) := by decide +kernel
theorem dX10_about_119 : decode cX10_about 119 = .ok (.iload_n 1, 1) := by decide +kernel
theorem dX10_about_120 : decode cX10_about 120 = .ok (.iaload, 1) := by decide +kernel
theorem dX10_about_121 : decode cX10_about 121 = .ok (.putfield 223, 3) := by decide +kernel
theorem dX10_about_124 : decode cX10_about 124 = .ok (.return_, 1) := by decide +kernel
theorem dX10_taking_0 : decode cX10_taking 0 = .ok (.aload_n 0, 1) := by decide +kernel
theorem dX10_taking_1 : decode cX10_taking 1 = .ok (.iload_n 1, 1) := by decide +kernel
theorem dX10_taking_2 : decode cX10_taking 2 = .ok (.iload_n 2, 1) := by decide +kernel
theorem dX10_taking_3 : decode cX10_taking 3 = .ok (.iload_n 3, 1) := by decide +kernel
theorem dX10_taking_4 : decode cX10_taking 4 = .ok (.invokevirtual 278, 3) := by decide +kernel
theorem dX10_taking_7 : decode cX10_taking 7 = .ok (.aload_n 0, 1) := by decide +kernel
theorem dX10_taking_8 : decode cX10_taking 8 = .ok (.aload_n 0, 1) := by decide +kernel
theorem dX10_taking_9 : decode cX10_taking 9 = .ok (.getfield 270, 3) := by decide +kernel
theorem dX10_taking_12 : decode cX10_taking 12 = .ok (.iconst 0, 1) := by decide +kernel
theorem dX10_taking_13 : decode cX10_taking 13 = .ok (.invokevirtual 266, 3) := by decide +kernel
theorem dX10_taking_16 : decode cX10_taking 16 = .ok (.ifCond .ne 6, 3) := by decide +kernel
theorem dX10_taking_19 : decode cX10_taking 19 = .ok (.bipush (-5), 2) := by decide +kernel
theorem dX10_taking_21 : decode cX10_taking 21 = .ok (.ireturn, 1) := by decide +kernel
theorem dX10_taking_22 : decode cX10_taking 22 = .ok (.aload_n 0, 1) := by decide +kernel
theorem dX10_taking_23 : decode cX10_taking 23 = .ok (.iload_n 1, 1) := by decide +kernel
theorem dX10_taking_24 : decode cX10_taking 24 = .ok (.aload_n 0, 1) := by decide +kernel
theorem dX10_taking_25 : decode cX10_taking 25 = .ok (.getfield 211, 3) := by decide +kernel
theorem dX10_taking_28 : decode cX10_taking 28 = .ok (.aload_n 0, 1) := by decide +kernel
theorem dX10_taking_29 : decode cX10_taking 29 = .ok (.getfield 220, 3) := by decide +kernel
theorem dX10_taking_32 : decode cX10_taking 32 = .ok (.invokevirtual 144, 3) := by decide +kernel
theorem dX10_taking_35 : decode cX10_taking 35 = .ok (.aload_n 0, 1) := by decide +kernel
theorem dX10_taking_36 : decode cX10_taking 36 = .ok (.aload_n 0, 1) := by decide +kernel
theorem dX10_taking_37 : decode cX10_taking 37 = .ok (.getfield 270, 3) := by decide +kernel
theorem dX10_taking_40 : decode cX10_taking 40 = .ok (.iconst 1, 1) := by decide +kernel
theorem dX10_taking_41 : decode cX10_taking 41 = .ok (.invokevirtual 266, 3) := by decide +kernel
theorem dX10_taking_44 : decode cX10_taking 44 = .ok (.iconst 0, 1) := by decide +kernel
theorem dX10_taking_45 : decode cX10_taking 45 = .ok (.sipush 999, 3) := by decide +kernel
theorem dX10_taking_48 : decode cX10_taking 48 = .ok (.invokestatic 282, 3) := by decide +kernel
theorem dX10_taking_51 : decode cX10_taking 51 = .ok (.iadd, 1) := by decide +kernel
theorem dX10_taking_52 : decode cX10_taking 52 = .ok (.ireturn, 1) := by decide +kernel
theorem dX10_costOf_0 : decode cX10_costOf 0 = .ok (.aload_n 0, 1) := by decide +kernel
theorem dX10_costOf_1 : decode cX10_costOf 1 = .ok (.iload_n 1, 1) := by decide +kernel
theorem dX10_costOf_2 : decode cX10_costOf 2 = .ok (.iload_n 2, 1) := by decide +kernel
theorem dX10_costOf_3 : decode cX10_costOf 3 = .ok (.iload_n 3, 1) := by decide +kernel
theorem dX10_costOf_4 : decode cX10_costOf 4 = .ok (.invokevirtual 285, 3) := by decide +kernel
theorem dX10_costOf_7 : decode cX10_costOf 7 = .ok (.istore 4, 2) := by decide +kernel
theorem dX10_costOf_9 : decode cX10_costOf 9 = .ok (.iload 4, 2) := by decide +kernel
theorem dX10_costOf_11 : decode cX10_costOf 11 = .ok (.bipush (-5), 2) := by decide +kernel
theorem dX10_costOf_13 : decode cX10_costOf 13 = .ok (.if_icmp .ne 8, 3) := by decide +kernel
theorem dX10_costOf_16 : decode cX10_costOf 16 = .ok (.bipush (-5), 2) := by decide +kernel
theorem dX10_costOf_18 : decode cX10_costOf 18 = .ok (.goto 24, 3) := by decide +kernel
theorem dX10_costOf_21 : decode cX10_costOf 21 = .ok (.aload_n 0, 1) := by decide +kernel
theorem dX10_costOf_22 : decode cX10_costOf 22 = .ok (.getfield 226, 3) := by decide +kernel
theorem dX10_costOf_25 : decode cX10_costOf 25 = .ok (.iconst 1, 1) := by decide +kernel
theorem dX10_costOf_26 : decode cX10_costOf 26 = .ok (.if_icmp .ne 8, 3) := by decide +kernel
theorem dX10_costOf_29 : decode cX10_costOf 29 = .ok (.iload 4, 2) := by decide +kernel
theorem dX10_costOf_31 : decode cX10_costOf 31 = .ok (.goto 11, 3) := by decide +kernel
theorem dX10_costOf_34 : decode cX10_costOf 34 = .ok (.iload 4, 2) := by decide +kernel
theorem dX10_costOf_36 : decode cX10_costOf 36 = .ok (.aload_n 0, 1) := by decide +kernel
theorem dX10_costOf_37 : decode cX10_costOf 37 = .ok (.iload_n 1, 1) := by decide +kernel
theorem dX10_costOf_38 : decode cX10_costOf 38 = .ok (.invokevirtual 148, 3) := by decide +kernel
theorem dX10_costOf_41 : decode cX10_costOf 41 = .ok (.iadd, 1) := by decide +kernel
theorem dX10_costOf_42 : decode cX10_costOf 42 = .ok (.ireturn, 1) := by decide +kernel
theorem dX10_mayBeTied_0 : decode cX10_mayBeTied 0 = .ok (.iload_n 1, 1) := by decide +kernel
theorem dX10_mayBeTied_1 : decode cX10_mayBeTied 1 = .ok (.ifCond .le 14, 3) := by decide +kernel
theorem dX10_mayBeTied_4 : decode cX10_mayBeTied 4 = .ok (.iload_n 1, 1) := by decide +kernel
theorem dX10_mayBeTied_5 : decode cX10_mayBeTied 5 = .ok (.aload_n 0, 1) := by decide +kernel
theorem dX10_mayBeTied_6 : decode cX10_mayBeTied 6 = .ok (.invokevirtual 288, 3) := by decide +kernel
theorem dX10_mayBeTied_9 : decode cX10_mayBeTied 9 = .ok (.iconst (-1), 1) := by decide +kernel
theorem dX10_mayBeTied_10 : decode cX10_mayBeTied 10 = .ok (.ixor, 1) := by decide +kernel
theorem dX10_mayBeTied_11 : decode cX10_mayBeTied 11 = .ok (.iand, 1) := by decide +kernel
theorem dX10_mayBeTied_12 : decode cX10_mayBeTied 12 = .ok (.ifCond .eq 5, 3) := by decide +kernel
theorem dX10_mayBeTied_15 : decode cX10_mayBeTied 15 = .ok (.iconst 0, 1) := by decide +kernel
theorem dX10_mayBeTied_16 : decode cX10_mayBeTied 16 = .ok (.ireturn, 1) := by decide +kernel
theorem dX10_mayBeTied_17 : decode cX10_mayBeTied 17 = .ok (.iconst 0, 1) := by decide +kernel
theorem dX10_mayBeTied_18 : decode cX10_mayBeTied 18 = .ok (.istore_n 2, 1) := by decide +kernel
theorem dX10_mayBeTied_19 : decode cX10_mayBeTied 19 = .ok (.iconst 0, 1) := by decide +kernel
theorem dX10_mayBeTied_20 : decode cX10_mayBeTied 20 = .ok (.istore_n 3, 1) := by decide +kernel
theorem dX10_mayBeTied_21 : decode cX10_mayBeTied 21 = .ok (.iload_n 3, 1) := by decide +kernel
theorem dX10_mayBeTied_22 : decode cX10_mayBeTied 22 = .ok (.aload_n 0, 1) := by decide +kernel
theorem dX10_mayBeTied_23 : decode cX10_mayBeTied 23 = .ok (.getfield 110, 3) := by decide +kernel
theorem dX10_mayBeTied_26 : decode cX10_mayBeTied 26 = .ok (.if_icmp .ge 24, 3) := by decide +kernel
theorem dX10_mayBeTied_29 : decode cX10_mayBeTied 29 = .ok (.iload_n 2, 1) := by decide +kernel
theorem dX10_mayBeTied_30 : decode cX10_mayBeTied 30 = .ok (.iload_n 1, 1) := by decide +kernel
theorem dX10_mayBeTied_31 : decode cX10_mayBeTied 31 = .ok (.iload_n 3, 1) := by decide +kernel
theorem dX10_mayBeTied_32 : decode cX10_mayBeTied 32 = .ok (.ishr, 1) := by decide +kernel
theorem dX10_mayBeTied_33 : decode cX10_mayBeTied 33 = .ok (.iconst 1, 1) := by decide +kernel
theorem dX10_mayBeTied_34 : decode cX10_mayBeTied 34 = .ok (.iand, 1) := by decide +kernel
theorem dX10_mayBeTied_35 : decode cX10_mayBeTied 35 = .ok (.aload_n 0, 1) := by decide +kernel
theorem dX10_mayBeTied_36 : decode cX10_mayBeTied 36 = .ok (.getfield 38, 3) := by decide +kernel
theorem dX10_mayBeTied_39 : decode cX10_mayBeTied 39 = .ok (.iload_n 3, 1) := by decide +kernel
theorem dX10_mayBeTied_40 : decode cX10_mayBeTied 40 = .ok (.iaload, 1) := by decide +kernel
theorem dX10_mayBeTied_41 : decode cX10_mayBeTied 41 = .ok (.imul, 1) := by decide +kernel
theorem dX10_mayBeTied_42 : decode cX10_mayBeTied 42 = .ok (.iadd, 1) := by decide +kernel
theorem dX10_mayBeTied_43 : decode cX10_mayBeTied 43 = .ok (.istore_n 2, 1) := by decide +kernel
theorem dX10_mayBeTied_44 : decode cX10_mayBeTied 44 = .ok (.iinc 3 1, 3) := by decide +kernel
theorem dX10_mayBeTied_47 : decode cX10_mayBeTied 47 = .ok (.goto (-26), 3) := by decide +kernel
theorem dX10_mayBeTied_50 : decode cX10_mayBeTied 50 = .ok (.iload_n 1, 1) := by decide +kernel
theorem dX10_mayBeTied_51 : decode cX10_mayBeTied 51 = .ok (.invokestatic 291, 3) := by decide +kernel
theorem dX10_mayBeTied_54 : decode cX10_mayBeTied 54 = .ok (.iconst 1, 1) := by decide +kernel
theorem dX10_mayBeTied_55 : decode cX10_mayBeTied 55 = .ok (.if_icmp .eq 11, 3) := by decide +kernel
theorem dX10_mayBeTied_58 : decode cX10_mayBeTied 58 = .ok (.iload_n 2, 1) := by decide +kernel
theorem dX10_mayBeTied_59 : decode cX10_mayBeTied 59 = .ok (.aload_n 0, 1) := by decide +kernel
theorem dX10_mayBeTied_60 : decode cX10_mayBeTied 60 = .ok (.getfield 47, 3) := by decide +kernel
theorem dX10_mayBeTied_63 : decode cX10_mayBeTied 63 = .ok (.if_icmp .gt 7, 3) := by decide +kernel
theorem dX10_mayBeTied_66 : decode cX10_mayBeTied 66 = .ok (.iconst 1, 1) := by decide +kernel
theorem dX10_mayBeTied_67 : decode cX10_mayBeTied 67 = .ok (.goto 4, 3) := by decide +kernel
theorem dX10_mayBeTied_70 : decode cX10_mayBeTied 70 = .ok (.iconst 0, 1) := by decide +kernel
theorem dX10_mayBeTied_71 : decode cX10_mayBeTied 71 = .ok (.ireturn, 1) := by decide +kernel
theorem dX10_cost_0 : decode cX10_cost 0 = .ok (.aload_n 0, 1) := by decide +kernel
theorem dX10_cost_1 : decode cX10_cost 1 = .ok (.iload_n 1, 1) := by decide +kernel
theorem dX10_cost_2 : decode cX10_cost 2 = .ok (.invokevirtual 132, 3) := by decide +kernel
theorem dX10_cost_5 : decode cX10_cost 5 = .ok (.ifCond .eq 33, 3) := by decide +kernel
theorem dX10_cost_8 : decode cX10_cost 8 = .ok (.aload_n 0, 1) := by decide +kernel
theorem dX10_cost_9 : decode cX10_cost 9 = .ok (.iload_n 2, 1) := by decide +kernel
theorem dX10_cost_10 : decode cX10_cost 10 = .ok (.invokevirtual 294, 3) := by decide +kernel
theorem dX10_cost_13 : decode cX10_cost 13 = .ok (.ifCond .eq 25, 3) := by decide +kernel
theorem dX10_cost_16 : decode cX10_cost 16 = .ok (.iload_n 3, 1) := by decide +kernel
theorem dX10_cost_17 : decode cX10_cost 17 = .ok (.i2l, 1) := by decide +kernel
theorem dX10_cost_18 : decode cX10_cost 18 = .ok (.lconst 0, 1) := by decide +kernel
theorem dX10_cost_19 : decode cX10_cost 19 = .ok (.ldc2_w 273, 3) := by decide +kernel
theorem dX10_cost_22 : decode cX10_cost 22 = .ok (.invokestatic 106, 3) := by decide +kernel
theorem dX10_cost_25 : decode cX10_cost 25 = .ok (.ifCond .eq 13, 3) := by decide +kernel
theorem dX10_cost_28 : decode cX10_cost 28 = .ok (.aload_n 0, 1) := by decide +kernel
theorem dX10_cost_29 : decode cX10_cost 29 = .ok (.iload_n 1, 1) := by decide +kernel
theorem dX10_cost_30 : decode cX10_cost 30 = .ok (.iload_n 2, 1) := by decide +kernel
theorem dX10_cost_31 : decode cX10_cost 31 = .ok (.iload_n 3, 1) := by decide +kernel
theorem dX10_cost_32 : decode cX10_cost 32 = .ok (.invokevirtual 297, 3) := by decide +kernel
theorem dX10_cost_35 : decode cX10_cost 35 = .ok (.goto 5, 3) := by decide +kernel
theorem dX10_cost_38 : decode cX10_cost 38 = .ok (.bipush (-2), 2) := by decide +kernel
theorem dX10_cost_40 : decode cX10_cost 40 = .ok (.ireturn, 1) := by decide +kernel
theorem dX10_bestOf_0 : decode cX10_bestOf 0 = .ok (.iconst (-1), 1) := by decide +kernel
theorem dX10_bestOf_1 : decode cX10_bestOf 1 = .ok (.istore_n 3, 1) := by decide +kernel
theorem dX10_bestOf_2 : decode cX10_bestOf 2 = .ok (.iconst 0, 1) := by decide +kernel
theorem dX10_bestOf_3 : decode cX10_bestOf 3 = .ok (.istore 4, 2) := by decide +kernel
theorem dX10_bestOf_5 : decode cX10_bestOf 5 = .ok (.iload 4, 2) := by decide +kernel
theorem dX10_bestOf_7 : decode cX10_bestOf 7 = .ok (.aload_n 0, 1) := by decide +kernel
theorem dX10_bestOf_8 : decode cX10_bestOf 8 = .ok (.getfield 103, 3) := by decide +kernel
theorem dX10_bestOf_11 : decode cX10_bestOf 11 = .ok (.if_icmp .ge 49, 3) := by decide +kernel
theorem dX10_bestOf_14 : decode cX10_bestOf 14 = .ok (.aload_n 0, 1) := by decide +kernel
theorem dX10_bestOf_15 : decode cX10_bestOf 15 = .ok (.iload 4, 2) := by decide +kernel
theorem dX10_bestOf_17 : decode cX10_bestOf 17 = .ok (.iload_n 1, 1) := by decide +kernel
theorem dX10_bestOf_18 : decode cX10_bestOf 18 = .ok (.iload_n 2, 1) := by decide +kernel
theorem dX10_bestOf_19 : decode cX10_bestOf 19 = .ok (.invokevirtual 297, 3) := by decide +kernel
theorem dX10_bestOf_22 : decode cX10_bestOf 22 = .ok (.istore 5, 2) := by decide +kernel
theorem dX10_bestOf_24 : decode cX10_bestOf 24 = .ok (.iload 5, 2) := by decide +kernel
theorem dX10_bestOf_26 : decode cX10_bestOf 26 = .ok (.bipush (-5), 2) := by decide +kernel
theorem dX10_bestOf_28 : decode cX10_bestOf 28 = .ok (.if_icmp .eq 26, 3) := by decide +kernel
theorem dX10_bestOf_31 : decode cX10_bestOf 31 = .ok (.iload_n 3, 1) := by decide +kernel
theorem dX10_bestOf_32 : decode cX10_bestOf 32 = .ok (.iconst (-1), 1) := by decide +kernel
theorem dX10_bestOf_33 : decode cX10_bestOf 33 = .ok (.if_icmp .eq 12, 3) := by decide +kernel
theorem dX10_bestOf_36 : decode cX10_bestOf 36 = .ok (.iload 5, 2) := by decide +kernel
theorem dX10_bestOf_38 : decode cX10_bestOf 38 = .ok (.aload_n 0, 1) := by decide +kernel
theorem dX10_bestOf_39 : decode cX10_bestOf 39 = .ok (.getfield 300, 3) := by decide +kernel
theorem dX10_bestOf_42 : decode cX10_bestOf 42 = .ok (.if_icmp .ge 12, 3) := by decide +kernel
theorem dX10_bestOf_45 : decode cX10_bestOf 45 = .ok (.iload 4, 2) := by decide +kernel
theorem dX10_bestOf_47 : decode cX10_bestOf 47 = .ok (.istore_n 3, 1) := by decide +kernel
theorem dX10_bestOf_48 : decode cX10_bestOf 48 = .ok (.aload_n 0, 1) := by decide +kernel
theorem dX10_bestOf_49 : decode cX10_bestOf 49 = .ok (.iload 5, 2) := by decide +kernel
theorem dX10_bestOf_51 : decode cX10_bestOf 51 = .ok (.putfield 300, 3) := by decide +kernel
theorem dX10_bestOf_54 : decode cX10_bestOf 54 = .ok (.iinc 4 1, 3) := by decide +kernel
theorem dX10_bestOf_57 : decode cX10_bestOf 57 = .ok (.goto (-52), 3) := by decide +kernel
theorem dX10_bestOf_60 : decode cX10_bestOf 60 = .ok (.iload_n 3, 1) := by decide +kernel
theorem dX10_bestOf_61 : decode cX10_bestOf 61 = .ok (.ireturn, 1) := by decide +kernel
theorem dX10_best_0 : decode cX10_best 0 = .ok (.aload_n 0, 1) := by decide +kernel
theorem dX10_best_1 : decode cX10_best 1 = .ok (.iload_n 1, 1) := by decide +kernel
theorem dX10_best_2 : decode cX10_best 2 = .ok (.invokevirtual 294, 3) := by decide +kernel
theorem dX10_best_5 : decode cX10_best 5 = .ok (.ifCond .eq 25, 3) := by decide +kernel
theorem dX10_best_8 : decode cX10_best 8 = .ok (.iload_n 2, 1) := by decide +kernel
theorem dX10_best_9 : decode cX10_best 9 = .ok (.i2l, 1) := by decide +kernel
theorem dX10_best_10 : decode cX10_best 10 = .ok (.lconst 0, 1) := by decide +kernel
theorem dX10_best_11 : decode cX10_best 11 = .ok (.ldc2_w 273, 3) := by decide +kernel
theorem dX10_best_14 : decode cX10_best 14 = .ok (.invokestatic 106, 3) := by decide +kernel
theorem dX10_best_17 : decode cX10_best 17 = .ok (.ifCond .eq 13, 3) := by decide +kernel
theorem dX10_best_20 : decode cX10_best 20 = .ok (.iload_n 3, 1) := by decide +kernel
theorem dX10_best_21 : decode cX10_best 21 = .ok (.i2l, 1) := by decide +kernel
theorem dX10_best_22 : decode cX10_best 22 = .ok (.lconst 0, 1) := by decide +kernel
theorem dX10_best_23 : decode cX10_best 23 = .ok (.lconst 1, 1) := by decide +kernel
theorem dX10_best_24 : decode cX10_best 24 = .ok (.invokestatic 106, 3) := by decide +kernel
theorem dX10_best_27 : decode cX10_best 27 = .ok (.ifCond .ne 6, 3) := by decide +kernel
theorem dX10_best_30 : decode cX10_best 30 = .ok (.bipush (-2), 2) := by decide +kernel
theorem dX10_best_32 : decode cX10_best 32 = .ok (.ireturn, 1) := by decide +kernel
theorem dX10_best_33 : decode cX10_best 33 = .ok (.aload_n 0, 1) := by decide +kernel
theorem dX10_best_34 : decode cX10_best 34 = .ok (.iload_n 1, 1) := by decide +kernel
theorem dX10_best_35 : decode cX10_best 35 = .ok (.iload_n 2, 1) := by decide +kernel
theorem dX10_best_36 : decode cX10_best 36 = .ok (.invokevirtual 303, 3) := by decide +kernel
theorem dX10_best_39 : decode cX10_best 39 = .ok (.istore 4, 2) := by decide +kernel
theorem dX10_best_41 : decode cX10_best 41 = .ok (.iload 4, 2) := by decide +kernel
theorem dX10_best_43 : decode cX10_best 43 = .ok (.iconst (-1), 1) := by decide +kernel
theorem dX10_best_44 : decode cX10_best 44 = .ok (.if_icmp .eq 7, 3) := by decide +kernel
theorem dX10_best_47 : decode cX10_best 47 = .ok (.iload_n 3, 1) := by decide +kernel
theorem dX10_best_48 : decode cX10_best 48 = .ok (.ifCond .ne 8, 3) := by decide +kernel
theorem dX10_best_51 : decode cX10_best 51 = .ok (.iload 4, 2) := by decide +kernel
theorem dX10_best_53 : decode cX10_best 53 = .ok (.goto 7, 3) := by decide +kernel
theorem dX10_best_56 : decode cX10_best 56 = .ok (.aload_n 0, 1) := by decide +kernel
theorem dX10_best_57 : decode cX10_best 57 = .ok (.getfield 300, 3) := by decide +kernel
theorem dX10_best_60 : decode cX10_best 60 = .ok (.ireturn, 1) := by decide +kernel
theorem dX10_whenLeast_0 : decode cX10_whenLeast 0 = .ok (.iconst (-1), 1) := by decide +kernel
theorem dX10_whenLeast_1 : decode cX10_whenLeast 1 = .ok (.istore_n 3, 1) := by decide +kernel
theorem dX10_whenLeast_2 : decode cX10_whenLeast 2 = .ok (.iconst 0, 1) := by decide +kernel
theorem dX10_whenLeast_3 : decode cX10_whenLeast 3 = .ok (.istore 4, 2) := by decide +kernel
theorem dX10_whenLeast_5 : decode cX10_whenLeast 5 = .ok (.iload 4, 2) := by decide +kernel
theorem dX10_whenLeast_7 : decode cX10_whenLeast 7 = .ok (.iload_n 2, 1) := by decide +kernel
theorem dX10_whenLeast_8 : decode cX10_whenLeast 8 = .ok (.if_icmp .gt 49, 3) := by decide +kernel
theorem dX10_whenLeast_11 : decode cX10_whenLeast 11 = .ok (.aload_n 0, 1) := by decide +kernel
theorem dX10_whenLeast_12 : decode cX10_whenLeast 12 = .ok (.iconst 1, 1) := by decide +kernel
theorem dX10_whenLeast_13 : decode cX10_whenLeast 13 = .ok (.iload_n 1, 1) := by decide +kernel
theorem dX10_whenLeast_14 : decode cX10_whenLeast 14 = .ok (.ishl, 1) := by decide +kernel
theorem dX10_whenLeast_15 : decode cX10_whenLeast 15 = .ok (.iload 4, 2) := by decide +kernel
theorem dX10_whenLeast_17 : decode cX10_whenLeast 17 = .ok (.invokevirtual 303, 3) := by decide +kernel
theorem dX10_whenLeast_20 : decode cX10_whenLeast 20 = .ok (.iconst (-1), 1) := by decide +kernel
theorem dX10_whenLeast_21 : decode cX10_whenLeast 21 = .ok (.if_icmp .eq 30, 3) := by decide +kernel
theorem dX10_whenLeast_24 : decode cX10_whenLeast 24 = .ok (.iload_n 3, 1) := by decide +kernel
theorem dX10_whenLeast_25 : decode cX10_whenLeast 25 = .ok (.iconst (-1), 1) := by decide +kernel
theorem dX10_whenLeast_26 : decode cX10_whenLeast 26 = .ok (.if_icmp .eq 14, 3) := by decide +kernel
theorem dX10_whenLeast_29 : decode cX10_whenLeast 29 = .ok (.aload_n 0, 1) := by decide +kernel
theorem dX10_whenLeast_30 : decode cX10_whenLeast 30 = .ok (.getfield 300, 3) := by decide +kernel
theorem dX10_whenLeast_33 : decode cX10_whenLeast 33 = .ok (.aload_n 0, 1) := by decide +kernel
theorem dX10_whenLeast_34 : decode cX10_whenLeast 34 = .ok (.getfield 306, 3) := by decide +kernel
theorem dX10_whenLeast_37 : decode cX10_whenLeast 37 = .ok (.if_icmp .ge 14, 3) := by decide +kernel
theorem dX10_whenLeast_40 : decode cX10_whenLeast 40 = .ok (.iload 4, 2) := by decide +kernel
theorem dX10_whenLeast_42 : decode cX10_whenLeast 42 = .ok (.istore_n 3, 1) := by decide +kernel
theorem dX10_whenLeast_43 : decode cX10_whenLeast 43 = .ok (.aload_n 0, 1) := by decide +kernel
theorem dX10_whenLeast_44 : decode cX10_whenLeast 44 = .ok (.aload_n 0, 1) := by decide +kernel
theorem dX10_whenLeast_45 : decode cX10_whenLeast 45 = .ok (.getfield 300, 3) := by decide +kernel
theorem dX10_whenLeast_48 : decode cX10_whenLeast 48 = .ok (.putfield 306, 3) := by decide +kernel
theorem dX10_whenLeast_51 : decode cX10_whenLeast 51 = .ok (.iinc 4 1, 3) := by decide +kernel
theorem dX10_whenLeast_54 : decode cX10_whenLeast 54 = .ok (.goto (-49), 3) := by decide +kernel
theorem dX10_whenLeast_57 : decode cX10_whenLeast 57 = .ok (.iload_n 3, 1) := by decide +kernel
theorem dX10_whenLeast_58 : decode cX10_whenLeast 58 = .ok (.ireturn, 1) := by decide +kernel
theorem dX10_when_0 : decode cX10_when 0 = .ok (.aload_n 0, 1) := by decide +kernel
theorem dX10_when_1 : decode cX10_when 1 = .ok (.iload_n 1, 1) := by decide +kernel
theorem dX10_when_2 : decode cX10_when 2 = .ok (.invokevirtual 128, 3) := by decide +kernel
theorem dX10_when_5 : decode cX10_when 5 = .ok (.ifCond .eq 13, 3) := by decide +kernel
theorem dX10_when_8 : decode cX10_when 8 = .ok (.iload_n 2, 1) := by decide +kernel
theorem dX10_when_9 : decode cX10_when 9 = .ok (.i2l, 1) := by decide +kernel
theorem dX10_when_10 : decode cX10_when 10 = .ok (.lconst 0, 1) := by decide +kernel
theorem dX10_when_11 : decode cX10_when 11 = .ok (.lconst 1, 1) := by decide +kernel
theorem dX10_when_12 : decode cX10_when 12 = .ok (.invokestatic 106, 3) := by decide +kernel
theorem dX10_when_15 : decode cX10_when 15 = .ok (.ifCond .ne 6, 3) := by decide +kernel
theorem dX10_when_18 : decode cX10_when 18 = .ok (.bipush (-2), 2) := by decide +kernel
theorem dX10_when_20 : decode cX10_when 20 = .ok (.ireturn, 1) := by decide +kernel
theorem dX10_when_21 : decode cX10_when 21 = .ok (.aload_n 0, 1) := by decide +kernel
theorem dX10_when_22 : decode cX10_when 22 = .ok (.getfield 113, 3) := by decide +kernel
theorem dX10_when_25 : decode cX10_when 25 = .ok (.iload_n 1, 1) := by decide +kernel
theorem dX10_when_26 : decode cX10_when 26 = .ok (.ishr, 1) := by decide +kernel
theorem dX10_when_27 : decode cX10_when 27 = .ok (.iconst 1, 1) := by decide +kernel
theorem dX10_when_28 : decode cX10_when 28 = .ok (.iand, 1) := by decide +kernel
theorem dX10_when_29 : decode cX10_when 29 = .ok (.iconst 1, 1) := by decide +kernel
theorem dX10_when_30 : decode cX10_when 30 = .ok (.if_icmp .ne 6, 3) := by decide +kernel
theorem dX10_when_33 : decode cX10_when 33 = .ok (.bipush (-3), 2) := by decide +kernel
theorem dX10_when_35 : decode cX10_when 35 = .ok (.ireturn, 1) := by decide +kernel
theorem dX10_when_36 : decode cX10_when 36 = .ok (.aload_n 0, 1) := by decide +kernel
theorem dX10_when_37 : decode cX10_when 37 = .ok (.iload_n 1, 1) := by decide +kernel
theorem dX10_when_38 : decode cX10_when 38 = .ok (.bipush 103, 2) := by decide +kernel
theorem dX10_when_40 : decode cX10_when 40 = .ok (.invokevirtual 309, 3) := by decide +kernel
theorem dX10_when_43 : decode cX10_when 43 = .ok (.istore_n 3, 1) := by decide +kernel
theorem dX10_when_44 : decode cX10_when 44 = .ok (.iload_n 3, 1) := by decide +kernel
theorem dX10_when_45 : decode cX10_when 45 = .ok (.iconst (-1), 1) := by decide +kernel
theorem dX10_when_46 : decode cX10_when 46 = .ok (.if_icmp .eq 7, 3) := by decide +kernel
theorem dX10_when_49 : decode cX10_when 49 = .ok (.iload_n 2, 1) := by decide +kernel
theorem dX10_when_50 : decode cX10_when 50 = .ok (.ifCond .ne 7, 3) := by decide +kernel
theorem dX10_when_53 : decode cX10_when 53 = .ok (.iload_n 3, 1) := by decide +kernel
theorem dX10_when_54 : decode cX10_when 54 = .ok (.goto 7, 3) := by decide +kernel
theorem dX10_when_57 : decode cX10_when 57 = .ok (.aload_n 0, 1) := by decide +kernel
theorem dX10_when_58 : decode cX10_when 58 = .ok (.getfield 306, 3) := by decide +kernel
theorem dX10_when_61 : decode cX10_when 61 = .ok (.ireturn, 1) := by decide +kernel
theorem dX10_buy_0 : decode cX10_buy 0 = .ok (.aload_n 0, 1) := by decide +kernel
theorem dX10_buy_1 : decode cX10_buy 1 = .ok (.iload_n 1, 1) := by decide +kernel
theorem dX10_buy_2 : decode cX10_buy 2 = .ok (.invokevirtual 132, 3) := by decide +kernel
theorem dX10_buy_5 : decode cX10_buy 5 = .ok (.ifCond .eq 11, 3) := by decide +kernel
theorem dX10_buy_8 : decode cX10_buy 8 = .ok (.aload_n 0, 1) := by decide +kernel
theorem dX10_buy_9 : decode cX10_buy 9 = .ok (.iload_n 2, 1) := by decide +kernel
theorem dX10_buy_10 : decode cX10_buy 10 = .ok (.invokevirtual 294, 3) := by decide +kernel
theorem dX10_buy_13 : decode cX10_buy 13 = .ok (.ifCond .ne 6, 3) := by decide +kernel
theorem dX10_buy_16 : decode cX10_buy 16 = .ok (.bipush (-2), 2) := by decide +kernel
theorem dX10_buy_18 : decode cX10_buy 18 = .ok (.ireturn, 1) := by decide +kernel
theorem dX10_buy_19 : decode cX10_buy 19 = .ok (.aload_n 0, 1) := by decide +kernel
theorem dX10_buy_20 : decode cX10_buy 20 = .ok (.iload_n 1, 1) := by decide +kernel
theorem dX10_buy_21 : decode cX10_buy 21 = .ok (.iload_n 2, 1) := by decide +kernel
theorem dX10_buy_22 : decode cX10_buy 22 = .ok (.iconst 0, 1) := by decide +kernel
theorem dX10_buy_23 : decode cX10_buy 23 = .ok (.invokevirtual 285, 3) := by decide +kernel
theorem dX10_buy_26 : decode cX10_buy 26 = .ok (.istore_n 3, 1) := by decide +kernel
theorem dX10_buy_27 : decode cX10_buy 27 = .ok (.iload_n 3, 1) := by decide +kernel
theorem dX10_buy_28 : decode cX10_buy 28 = .ok (.bipush (-5), 2) := by decide +kernel
theorem dX10_buy_30 : decode cX10_buy 30 = .ok (.if_icmp .ne 6, 3) := by decide +kernel
theorem dX10_buy_33 : decode cX10_buy 33 = .ok (.bipush (-3), 2) := by decide +kernel
theorem dX10_buy_35 : decode cX10_buy 35 = .ok (.ireturn, 1) := by decide +kernel
theorem dX10_buy_36 : decode cX10_buy 36 = .ok (.aload_n 0, 1) := by decide +kernel
theorem dX10_buy_37 : decode cX10_buy 37 = .ok (.dup, 1) := by decide +kernel
theorem dX10_buy_38 : decode cX10_buy 38 = .ok (.getfield 113, 3) := by decide +kernel
theorem dX10_buy_41 : decode cX10_buy 41 = .ok (.iload_n 2, 1) := by decide +kernel
theorem dX10_buy_42 : decode cX10_buy 42 = .ok (.ior, 1) := by decide +kernel
theorem dX10_buy_43 : decode cX10_buy 43 = .ok (.putfield 113, 3) := by decide +kernel
theorem dX10_buy_46 : decode cX10_buy 46 = .ok (.aload_n 0, 1) := by decide +kernel
theorem dX10_buy_47 : decode cX10_buy 47 = .ok (.dup, 1) := by decide +kernel
theorem dX10_buy_48 : decode cX10_buy 48 = .ok (.getfield 312, 3) := by decide +kernel
theorem dX10_buy_51 : decode cX10_buy 51 = .ok (.iload_n 3, 1) := by decide +kernel
theorem dX10_buy_52 : decode cX10_buy 52 = .ok (.iadd, 1) := by decide +kernel
theorem dX10_buy_53 : decode cX10_buy 53 = .ok (.putfield 312, 3) := by decide +kernel
theorem dX10_buy_56 : decode cX10_buy 56 = .ok (.iload_n 3, 1) := by decide +kernel
theorem dX10_buy_57 : decode cX10_buy 57 = .ok (.ireturn, 1) := by decide +kernel
theorem dX10_pass_0 : decode cX10_pass 0 = .ok (.aload_n 0, 1) := by decide +kernel
theorem dX10_pass_1 : decode cX10_pass 1 = .ok (.dup, 1) := by decide +kernel
theorem dX10_pass_2 : decode cX10_pass 2 = .ok (.getfield 141, 3) := by decide +kernel
theorem dX10_pass_5 : decode cX10_pass 5 = .ok (.iconst 1, 1) := by decide +kernel
theorem dX10_pass_6 : decode cX10_pass 6 = .ok (.iadd, 1) := by decide +kernel
theorem dX10_pass_7 : decode cX10_pass 7 = .ok (.putfield 141, 3) := by decide +kernel
theorem dX10_pass_10 : decode cX10_pass 10 = .ok (.aload_n 0, 1) := by decide +kernel
theorem dX10_pass_11 : decode cX10_pass 11 = .ok (.getfield 141, 3) := by decide +kernel
theorem dX10_pass_14 : decode cX10_pass 14 = .ok (.bipush 52, 2) := by decide +kernel
theorem dX10_pass_16 : decode cX10_pass 16 = .ok (.if_icmp .ne 32, 3) := by decide +kernel
theorem dX10_pass_19 : decode cX10_pass 19 = .ok (.aload_n 0, 1) := by decide +kernel
theorem dX10_pass_20 : decode cX10_pass 20 = .ok (.iconst 0, 1) := by decide +kernel
theorem dX10_pass_21 : decode cX10_pass 21 = .ok (.putfield 141, 3) := by decide +kernel
theorem dX10_pass_24 : decode cX10_pass 24 = .ok (.aload_n 0, 1) := by decide +kernel
theorem dX10_pass_25 : decode cX10_pass 25 = .ok (.aload_n 0, 1) := by decide +kernel
theorem dX10_pass_26 : decode cX10_pass 26 = .ok (.getfield 315, 3) := by decide +kernel
theorem dX10_pass_29 : decode cX10_pass 29 = .ok (.bipush 99, 2) := by decide +kernel
theorem dX10_pass_31 : decode cX10_pass 31 = .ok (.if_icmp .ge 12, 3) := by decide +kernel
theorem dX10_pass_34 : decode cX10_pass 34 = .ok (.aload_n 0, 1) := by decide +kernel
theorem dX10_pass_35 : decode cX10_pass 35 = .ok (.getfield 315, 3) := by decide +kernel
theorem dX10_pass_38 : decode cX10_pass 38 = .ok (.iconst 1, 1) := by decide +kernel
theorem dX10_pass_39 : decode cX10_pass 39 = .ok (.iadd, 1) := by decide +kernel
theorem dX10_pass_40 : decode cX10_pass 40 = .ok (.goto 5, 3) := by decide +kernel
theorem dX10_pass_43 : decode cX10_pass 43 = .ok (.bipush 99, 2) := by decide +kernel
theorem dX10_pass_45 : decode cX10_pass 45 = .ok (.putfield 315, 3) := by decide +kernel
theorem dX10_pass_48 : decode cX10_pass 48 = .ok (.iconst 0, 1) := by decide +kernel
theorem dX10_pass_49 : decode cX10_pass 49 = .ok (.istore_n 1, 1) := by decide +kernel
theorem dX10_pass_50 : decode cX10_pass 50 = .ok (.iload_n 1, 1) := by decide +kernel
theorem dX10_pass_51 : decode cX10_pass 51 = .ok (.aload_n 0, 1) := by decide +kernel
theorem dX10_pass_52 : decode cX10_pass 52 = .ok (.getfield 103, 3) := by decide +kernel
theorem dX10_pass_55 : decode cX10_pass 55 = .ok (.if_icmp .ge 43, 3) := by decide +kernel
theorem dX10_pass_58 : decode cX10_pass 58 = .ok (.aload_n 0, 1) := by decide +kernel
theorem dX10_pass_59 : decode cX10_pass 59 = .ok (.getfield 26, 3) := by decide +kernel
theorem dX10_pass_62 : decode cX10_pass 62 = .ok (.iload_n 1, 1) := by decide +kernel
theorem dX10_pass_63 : decode cX10_pass 63 = .ok (.iaload, 1) := by decide +kernel
theorem dX10_pass_64 : decode cX10_pass 64 = .ok (.aload_n 0, 1) := by decide +kernel
theorem dX10_pass_65 : decode cX10_pass 65 = .ok (.getfield 141, 3) := by decide +kernel
theorem dX10_pass_68 : decode cX10_pass 68 = .ok (.if_icmp .ne 24, 3) := by decide +kernel
theorem dX10_pass_71 : decode cX10_pass 71 = .ok (.aload_n 0, 1) := by decide +kernel
theorem dX10_pass_72 : decode cX10_pass 72 = .ok (.getfield 29, 3) := by decide +kernel
theorem dX10_pass_75 : decode cX10_pass 75 = .ok (.iload_n 1, 1) := by decide +kernel
theorem dX10_pass_76 : decode cX10_pass 76 = .ok (.iaload, 1) := by decide +kernel
theorem dX10_pass_77 : decode cX10_pass 77 = .ok (.bipush 99, 2) := by decide +kernel
theorem dX10_pass_79 : decode cX10_pass 79 = .ok (.if_icmp .ge 13, 3) := by decide +kernel
theorem dX10_pass_82 : decode cX10_pass 82 = .ok (.aload_n 0, 1) := by decide +kernel
theorem dX10_pass_83 : decode cX10_pass 83 = .ok (.getfield 29, 3) := by decide +kernel
theorem dX10_pass_86 : decode cX10_pass 86 = .ok (.iload_n 1, 1) := by decide +kernel
theorem dX10_pass_87 : decode cX10_pass 87 = .ok (.dup2, 1) := by decide +kernel
theorem dX10_pass_88 : decode cX10_pass 88 = .ok (.iaload, 1) := by decide +kernel
theorem dX10_pass_89 : decode cX10_pass 89 = .ok (.iconst 1, 1) := by decide +kernel
theorem dX10_pass_90 : decode cX10_pass 90 = .ok (.iadd, 1) := by decide +kernel
theorem dX10_pass_91 : decode cX10_pass 91 = .ok (.iastore, 1) := by decide +kernel
theorem dX10_pass_92 : decode cX10_pass 92 = .ok (.iinc 1 1, 3) := by decide +kernel
theorem dX10_pass_95 : decode cX10_pass 95 = .ok (.goto (-45), 3) := by decide +kernel
theorem dX10_pass_98 : decode cX10_pass 98 = .ok (.aload_n 0, 1) := by decide +kernel
theorem dX10_pass_99 : decode cX10_pass 99 = .ok (.getfield 141, 3) := by decide +kernel
theorem dX10_pass_102 : decode cX10_pass 102 = .ok (.ireturn, 1) := by decide +kernel
theorem dX10_plans_0 : decode cX10_plans 0 = .ok (.aload_n 0, 1) := by decide +kernel
theorem dX10_plans_1 : decode cX10_plans 1 = .ok (.invokevirtual 288, 3) := by decide +kernel
theorem dX10_plans_4 : decode cX10_plans 4 = .ok (.istore_n 1, 1) := by decide +kernel
theorem dX10_plans_5 : decode cX10_plans 5 = .ok (.iconst 1, 1) := by decide +kernel
theorem dX10_plans_6 : decode cX10_plans 6 = .ok (.istore_n 2, 1) := by decide +kernel
theorem dX10_plans_7 : decode cX10_plans 7 = .ok (.iload_n 2, 1) := by decide +kernel
theorem dX10_plans_8 : decode cX10_plans 8 = .ok (.sipush 128, 3) := by decide +kernel
theorem dX10_plans_11 : decode cX10_plans 11 = .ok (.if_icmp .ge 52, 3) := by decide +kernel
theorem dX10_plans_14 : decode cX10_plans 14 = .ok (.aload_n 0, 1) := by decide +kernel
theorem dX10_plans_15 : decode cX10_plans 15 = .ok (.getfield 59, 3) := by decide +kernel
theorem dX10_plans_18 : decode cX10_plans 18 = .ok (.iload_n 2, 1) := by decide +kernel
theorem dX10_plans_19 : decode cX10_plans 19 = .ok (.iconst (-1), 1) := by decide +kernel
theorem dX10_plans_20 : decode cX10_plans 20 = .ok (.iastore, 1) := by decide +kernel
theorem dX10_plans_21 : decode cX10_plans 21 = .ok (.iload_n 2, 1) := by decide +kernel
theorem dX10_plans_22 : decode cX10_plans 22 = .ok (.iload_n 1, 1) := by decide +kernel
theorem dX10_plans_23 : decode cX10_plans 23 = .ok (.iconst (-1), 1) := by decide +kernel
theorem dX10_plans_24 : decode cX10_plans 24 = .ok (.ixor, 1) := by decide +kernel
theorem dX10_plans_25 : decode cX10_plans 25 = .ok (.iand, 1) := by decide +kernel
theorem dX10_plans_26 : decode cX10_plans 26 = .ok (.ifCond .ne 31, 3) := by decide +kernel
theorem dX10_plans_29 : decode cX10_plans 29 = .ok (.aload_n 0, 1) := by decide +kernel
theorem dX10_plans_30 : decode cX10_plans 30 = .ok (.iload_n 2, 1) := by decide +kernel
theorem dX10_plans_31 : decode cX10_plans 31 = .ok (.invokevirtual 294, 3) := by decide +kernel
theorem dX10_plans_34 : decode cX10_plans 34 = .ok (.ifCond .eq 23, 3) := by decide +kernel
theorem dX10_plans_37 : decode cX10_plans 37 = .ok (.aload_n 0, 1) := by decide +kernel
theorem dX10_plans_38 : decode cX10_plans 38 = .ok (.iload_n 2, 1) := by decide +kernel
theorem dX10_plans_39 : decode cX10_plans 39 = .ok (.iconst 0, 1) := by decide +kernel
theorem dX10_plans_40 : decode cX10_plans 40 = .ok (.invokevirtual 303, 3) := by decide +kernel
theorem dX10_plans_43 : decode cX10_plans 43 = .ok (.iconst (-1), 1) := by decide +kernel
theorem dX10_plans_44 : decode cX10_plans 44 = .ok (.if_icmp .eq 13, 3) := by decide +kernel
theorem dX10_plans_47 : decode cX10_plans 47 = .ok (.aload_n 0, 1) := by decide +kernel
theorem dX10_plans_48 : decode cX10_plans 48 = .ok (.getfield 59, 3) := by decide +kernel
theorem dX10_plans_51 : decode cX10_plans 51 = .ok (.iload_n 2, 1) := by decide +kernel
theorem dX10_plans_52 : decode cX10_plans 52 = .ok (.aload_n 0, 1) := by decide +kernel
theorem dX10_plans_53 : decode cX10_plans 53 = .ok (.getfield 300, 3) := by decide +kernel
theorem dX10_plans_56 : decode cX10_plans 56 = .ok (.iastore, 1) := by decide +kernel
theorem dX10_plans_57 : decode cX10_plans 57 = .ok (.iinc 2 1, 3) := by decide +kernel
theorem dX10_plans_60 : decode cX10_plans 60 = .ok (.goto (-53), 3) := by decide +kernel
theorem dX10_plans_63 : decode cX10_plans 63 = .ok (.aload_n 0, 1) := by decide +kernel
theorem dX10_plans_64 : decode cX10_plans 64 = .ok (.getfield 50, 3) := by decide +kernel
theorem dX10_plans_67 : decode cX10_plans 67 = .ok (.iconst 0, 1) := by decide +kernel
theorem dX10_plans_68 : decode cX10_plans 68 = .ok (.iconst 0, 1) := by decide +kernel
theorem dX10_plans_69 : decode cX10_plans 69 = .ok (.iastore, 1) := by decide +kernel
theorem dX10_plans_70 : decode cX10_plans 70 = .ok (.aload_n 0, 1) := by decide +kernel
theorem dX10_plans_71 : decode cX10_plans 71 = .ok (.getfield 53, 3) := by decide +kernel
theorem dX10_plans_74 : decode cX10_plans 74 = .ok (.iconst 0, 1) := by decide +kernel
theorem dX10_plans_75 : decode cX10_plans 75 = .ok (.iconst 0, 1) := by decide +kernel
theorem dX10_plans_76 : decode cX10_plans 76 = .ok (.iastore, 1) := by decide +kernel
theorem dX10_plans_77 : decode cX10_plans 77 = .ok (.iconst 1, 1) := by decide +kernel
theorem dX10_plans_78 : decode cX10_plans 78 = .ok (.istore_n 2, 1) := by decide +kernel
theorem dX10_plans_79 : decode cX10_plans 79 = .ok (.iload_n 2, 1) := by decide +kernel
theorem dX10_plans_80 : decode cX10_plans 80 = .ok (.sipush 128, 3) := by decide +kernel
theorem dX10_plans_83 : decode cX10_plans 83 = .ok (.if_icmp .ge 181, 3) := by decide +kernel
theorem dX10_plans_86 : decode cX10_plans 86 = .ok (.aload_n 0, 1) := by decide +kernel
theorem dX10_plans_87 : decode cX10_plans 87 = .ok (.getfield 50, 3) := by decide +kernel
theorem dX10_plans_90 : decode cX10_plans 90 = .ok (.iload_n 2, 1) := by decide +kernel
theorem dX10_plans_91 : decode cX10_plans 91 = .ok (.iconst (-1), 1) := by decide +kernel
theorem dX10_plans_92 : decode cX10_plans 92 = .ok (.iastore, 1) := by decide +kernel
theorem dX10_plans_93 : decode cX10_plans 93 = .ok (.iload_n 2, 1) := by decide +kernel
theorem dX10_plans_94 : decode cX10_plans 94 = .ok (.iload_n 2, 1) := by decide +kernel
theorem dX10_plans_95 : decode cX10_plans 95 = .ok (.ineg, 1) := by decide +kernel
theorem dX10_plans_96 : decode cX10_plans 96 = .ok (.iand, 1) := by decide +kernel
theorem dX10_plans_97 : decode cX10_plans 97 = .ok (.istore_n 3, 1) := by decide +kernel
theorem dX10_plans_98 : decode cX10_plans 98 = .ok (.iconst 1, 1) := by decide +kernel
theorem dX10_plans_99 : decode cX10_plans 99 = .ok (.istore 4, 2) := by decide +kernel
theorem dX10_plans_101 : decode cX10_plans 101 = .ok (.iload 4, 2) := by decide +kernel
theorem dX10_plans_103 : decode cX10_plans 103 = .ok (.iload_n 2, 1) := by decide +kernel
theorem dX10_plans_104 : decode cX10_plans 104 = .ok (.if_icmp .gt 154, 3) := by decide +kernel
theorem dX10_plans_107 : decode cX10_plans 107 = .ok (.iload 4, 2) := by decide +kernel
theorem dX10_plans_109 : decode cX10_plans 109 = .ok (.iload_n 2, 1) := by decide +kernel
theorem dX10_plans_110 : decode cX10_plans 110 = .ok (.iconst (-1), 1) := by decide +kernel
theorem dX10_plans_111 : decode cX10_plans 111 = .ok (.ixor, 1) := by decide +kernel
theorem dX10_plans_112 : decode cX10_plans 112 = .ok (.iand, 1) := by decide +kernel
theorem dX10_plans_113 : decode cX10_plans 113 = .ok (.ifCond .ne 139, 3) := by decide +kernel
theorem dX10_plans_116 : decode cX10_plans 116 = .ok (.iload 4, 2) := by decide +kernel
theorem dX10_plans_118 : decode cX10_plans 118 = .ok (.iload_n 3, 1) := by decide +kernel
theorem dX10_plans_119 : decode cX10_plans 119 = .ok (.iand, 1) := by decide +kernel
theorem dX10_plans_120 : decode cX10_plans 120 = .ok (.ifCond .eq 132, 3) := by decide +kernel
theorem dX10_plans_123 : decode cX10_plans 123 = .ok (.aload_n 0, 1) := by decide +kernel
theorem dX10_plans_124 : decode cX10_plans 124 = .ok (.getfield 59, 3) := by decide +kernel
theorem dX10_plans_127 : decode cX10_plans 127 = .ok (.iload 4, 2) := by decide +kernel
theorem dX10_plans_129 : decode cX10_plans 129 = .ok (.iaload, 1) := by decide +kernel
theorem dX10_plans_130 : decode cX10_plans 130 = .ok (.iconst (-1), 1) := by decide +kernel
theorem dX10_plans_131 : decode cX10_plans 131 = .ok (.if_icmp .eq 121, 3) := by decide +kernel
theorem dX10_plans_134 : decode cX10_plans 134 = .ok (.aload_n 0, 1) := by decide +kernel
theorem dX10_plans_135 : decode cX10_plans 135 = .ok (.getfield 50, 3) := by decide +kernel
theorem dX10_plans_138 : decode cX10_plans 138 = .ok (.iload_n 2, 1) := by decide +kernel
theorem dX10_plans_139 : decode cX10_plans 139 = .ok (.iload 4, 2) := by decide +kernel
theorem dX10_plans_141 : decode cX10_plans 141 = .ok (.iconst (-1), 1) := by decide +kernel
theorem dX10_plans_142 : decode cX10_plans 142 = .ok (.ixor, 1) := by decide +kernel
theorem dX10_plans_143 : decode cX10_plans 143 = .ok (.iand, 1) := by decide +kernel
theorem dX10_plans_144 : decode cX10_plans 144 = .ok (.iaload, 1) := by decide +kernel
theorem dX10_plans_145 : decode cX10_plans 145 = .ok (.iconst (-1), 1) := by decide +kernel
theorem dX10_plans_146 : decode cX10_plans 146 = .ok (.if_icmp .eq 106, 3) := by decide +kernel
theorem dX10_plans_149 : decode cX10_plans 149 = .ok (.aload_n 0, 1) := by decide +kernel
theorem dX10_plans_150 : decode cX10_plans 150 = .ok (.getfield 59, 3) := by decide +kernel
theorem dX10_plans_153 : decode cX10_plans 153 = .ok (.iload 4, 2) := by decide +kernel
theorem dX10_plans_155 : decode cX10_plans 155 = .ok (.iaload, 1) := by decide +kernel
theorem dX10_plans_156 : decode cX10_plans 156 = .ok (.aload_n 0, 1) := by decide +kernel
theorem dX10_plans_157 : decode cX10_plans 157 = .ok (.getfield 50, 3) := by decide +kernel
theorem dX10_plans_160 : decode cX10_plans 160 = .ok (.iload_n 2, 1) := by decide +kernel
theorem dX10_plans_161 : decode cX10_plans 161 = .ok (.iload 4, 2) := by decide +kernel
theorem dX10_plans_163 : decode cX10_plans 163 = .ok (.iconst (-1), 1) := by decide +kernel
theorem dX10_plans_164 : decode cX10_plans 164 = .ok (.ixor, 1) := by decide +kernel
theorem dX10_plans_165 : decode cX10_plans 165 = .ok (.iand, 1) := by decide +kernel
theorem dX10_plans_166 : decode cX10_plans 166 = .ok (.iaload, 1) := by decide +kernel
theorem dX10_plans_167 : decode cX10_plans 167 = .ok (.iadd, 1) := by decide +kernel
theorem dX10_plans_168 : decode cX10_plans 168 = .ok (.istore 5, 2) := by decide +kernel
theorem dX10_plans_170 : decode cX10_plans 170 = .ok (.iconst 1, 1) := by decide +kernel
theorem dX10_plans_171 : decode cX10_plans 171 = .ok (.aload_n 0, 1) := by decide +kernel
theorem dX10_plans_172 : decode cX10_plans 172 = .ok (.getfield 53, 3) := by decide +kernel
theorem dX10_plans_175 : decode cX10_plans 175 = .ok (.iload_n 2, 1) := by decide +kernel
theorem dX10_plans_176 : decode cX10_plans 176 = .ok (.iload 4, 2) := by decide +kernel
theorem dX10_plans_178 : decode cX10_plans 178 = .ok (.iconst (-1), 1) := by decide +kernel
theorem dX10_plans_179 : decode cX10_plans 179 = .ok (.ixor, 1) := by decide +kernel
theorem dX10_plans_180 : decode cX10_plans 180 = .ok (.iand, 1) := by decide +kernel
theorem dX10_plans_181 : decode cX10_plans 181 = .ok (.iaload, 1) := by decide +kernel
theorem dX10_plans_182 : decode cX10_plans 182 = .ok (.iadd, 1) := by decide +kernel
theorem dX10_plans_183 : decode cX10_plans 183 = .ok (.istore 6, 2) := by decide +kernel
theorem dX10_plans_185 : decode cX10_plans 185 = .ok (.aload_n 0, 1) := by decide +kernel
theorem dX10_plans_186 : decode cX10_plans 186 = .ok (.getfield 50, 3) := by decide +kernel
theorem dX10_plans_189 : decode cX10_plans 189 = .ok (.iload_n 2, 1) := by decide +kernel
theorem dX10_plans_190 : decode cX10_plans 190 = .ok (.iaload, 1) := by decide +kernel
theorem dX10_plans_191 : decode cX10_plans 191 = .ok (.iconst (-1), 1) := by decide +kernel
theorem dX10_plans_192 : decode cX10_plans 192 = .ok (.if_icmp .eq 36, 3) := by decide +kernel
theorem dX10_plans_195 : decode cX10_plans 195 = .ok (.iload 5, 2) := by decide +kernel
theorem dX10_plans_197 : decode cX10_plans 197 = .ok (.aload_n 0, 1) := by decide +kernel
theorem dX10_plans_198 : decode cX10_plans 198 = .ok (.getfield 50, 3) := by decide +kernel
theorem dX10_plans_201 : decode cX10_plans 201 = .ok (.iload_n 2, 1) := by decide +kernel
theorem dX10_plans_202 : decode cX10_plans 202 = .ok (.iaload, 1) := by decide +kernel
theorem dX10_plans_203 : decode cX10_plans 203 = .ok (.if_icmp .lt 25, 3) := by decide +kernel
theorem dX10_plans_206 : decode cX10_plans 206 = .ok (.iload 5, 2) := by decide +kernel
theorem dX10_plans_208 : decode cX10_plans 208 = .ok (.aload_n 0, 1) := by decide +kernel
theorem dX10_plans_209 : decode cX10_plans 209 = .ok (.getfield 50, 3) := by decide +kernel
theorem dX10_plans_212 : decode cX10_plans 212 = .ok (.iload_n 2, 1) := by decide +kernel
theorem dX10_plans_213 : decode cX10_plans 213 = .ok (.iaload, 1) := by decide +kernel
theorem dX10_plans_214 : decode cX10_plans 214 = .ok (.if_icmp .ne 38, 3) := by decide +kernel
theorem dX10_plans_217 : decode cX10_plans 217 = .ok (.iload 6, 2) := by decide +kernel
theorem dX10_plans_219 : decode cX10_plans 219 = .ok (.aload_n 0, 1) := by decide +kernel
theorem dX10_plans_220 : decode cX10_plans 220 = .ok (.getfield 53, 3) := by decide +kernel
theorem dX10_plans_223 : decode cX10_plans 223 = .ok (.iload_n 2, 1) := by decide +kernel
theorem dX10_plans_224 : decode cX10_plans 224 = .ok (.iaload, 1) := by decide +kernel
theorem dX10_plans_225 : decode cX10_plans 225 = .ok (.if_icmp .ge 27, 3) := by decide +kernel
theorem dX10_plans_228 : decode cX10_plans 228 = .ok (.aload_n 0, 1) := by decide +kernel
theorem dX10_plans_229 : decode cX10_plans 229 = .ok (.getfield 50, 3) := by decide +kernel
theorem dX10_plans_232 : decode cX10_plans 232 = .ok (.iload_n 2, 1) := by decide +kernel
theorem dX10_plans_233 : decode cX10_plans 233 = .ok (.iload 5, 2) := by decide +kernel
theorem dX10_plans_235 : decode cX10_plans 235 = .ok (.iastore, 1) := by decide +kernel
theorem dX10_plans_236 : decode cX10_plans 236 = .ok (.aload_n 0, 1) := by decide +kernel
theorem dX10_plans_237 : decode cX10_plans 237 = .ok (.getfield 53, 3) := by decide +kernel
theorem dX10_plans_240 : decode cX10_plans 240 = .ok (.iload_n 2, 1) := by decide +kernel
theorem dX10_plans_241 : decode cX10_plans 241 = .ok (.iload 6, 2) := by decide +kernel
theorem dX10_plans_243 : decode cX10_plans 243 = .ok (.iastore, 1) := by decide +kernel
theorem dX10_plans_244 : decode cX10_plans 244 = .ok (.aload_n 0, 1) := by decide +kernel
theorem dX10_plans_245 : decode cX10_plans 245 = .ok (.getfield 56, 3) := by decide +kernel
theorem dX10_plans_248 : decode cX10_plans 248 = .ok (.iload_n 2, 1) := by decide +kernel
theorem dX10_plans_249 : decode cX10_plans 249 = .ok (.iload 4, 2) := by decide +kernel
theorem dX10_plans_251 : decode cX10_plans 251 = .ok (.iastore, 1) := by decide +kernel
theorem dX10_plans_252 : decode cX10_plans 252 = .ok (.iinc 4 1, 3) := by decide +kernel
theorem dX10_plans_255 : decode cX10_plans 255 = .ok (.goto (-154), 3) := by decide +kernel
theorem dX10_plans_258 : decode cX10_plans 258 = .ok (.iinc 2 1, 3) := by decide +kernel
theorem dX10_plans_261 : decode cX10_plans 261 = .ok (.goto (-182), 3) := by decide +kernel
theorem dX10_plans_264 : decode cX10_plans 264 = .ok (.return_, 1) := by decide +kernel
theorem dX10_all_0 : decode cX10_all 0 = .ok (.iload_n 1, 1) := by decide +kernel
theorem dX10_all_1 : decode cX10_all 1 = .ok (.i2l, 1) := by decide +kernel
theorem dX10_all_2 : decode cX10_all 2 = .ok (.lconst 0, 1) := by decide +kernel
theorem dX10_all_3 : decode cX10_all 3 = .ok (.lconst 1, 1) := by decide +kernel
theorem dX10_all_4 : decode cX10_all 4 = .ok (.invokestatic 106, 3) := by decide +kernel
theorem dX10_all_7 : decode cX10_all 7 = .ok (.ifCond .ne 6, 3) := by decide +kernel
theorem dX10_all_10 : decode cX10_all 10 = .ok (.bipush (-2), 2) := by decide +kernel
theorem dX10_all_12 : decode cX10_all 12 = .ok (.ireturn, 1) := by decide +kernel
theorem dX10_all_13 : decode cX10_all 13 = .ok (.aload_n 0, 1) := by decide +kernel
theorem dX10_all_14 : decode cX10_all 14 = .ok (.invokevirtual 318, 3) := by decide +kernel
theorem dX10_all_17 : decode cX10_all 17 = .ok (.aload_n 0, 1) := by decide +kernel
theorem dX10_all_18 : decode cX10_all 18 = .ok (.invokevirtual 288, 3) := by decide +kernel
theorem dX10_all_21 : decode cX10_all 21 = .ok (.istore_n 2, 1) := by decide +kernel
theorem dX10_all_22 : decode cX10_all 22 = .ok (.aload_n 0, 1) := by decide +kernel
theorem dX10_all_23 : decode cX10_all 23 = .ok (.getfield 50, 3) := by decide +kernel
theorem dX10_all_26 : decode cX10_all 26 = .ok (.iload_n 2, 1) := by decide +kernel
theorem dX10_all_27 : decode cX10_all 27 = .ok (.iaload, 1) := by decide +kernel
theorem dX10_all_28 : decode cX10_all 28 = .ok (.iconst (-1), 1) := by decide +kernel
theorem dX10_all_29 : decode cX10_all 29 = .ok (.if_icmp .ne 7, 3) := by decide +kernel
theorem dX10_all_32 : decode cX10_all 32 = .ok (.iconst (-1), 1) := by decide +kernel
theorem dX10_all_33 : decode cX10_all 33 = .ok (.goto 22, 3) := by decide +kernel
theorem dX10_all_36 : decode cX10_all 36 = .ok (.iload_n 1, 1) := by decide +kernel
theorem dX10_all_37 : decode cX10_all 37 = .ok (.ifCond .ne 12, 3) := by decide +kernel
theorem dX10_all_40 : decode cX10_all 40 = .ok (.aload_n 0, 1) := by decide +kernel
theorem dX10_all_41 : decode cX10_all 41 = .ok (.getfield 50, 3) := by decide +kernel
theorem dX10_all_44 : decode cX10_all 44 = .ok (.iload_n 2, 1) := by decide +kernel
theorem dX10_all_45 : decode cX10_all 45 = .ok (.iaload, 1) := by decide +kernel
theorem dX10_all_46 : decode cX10_all 46 = .ok (.goto 9, 3) := by decide +kernel
theorem dX10_all_49 : decode cX10_all 49 = .ok (.aload_n 0, 1) := by decide +kernel
theorem dX10_all_50 : decode cX10_all 50 = .ok (.getfield 53, 3) := by decide +kernel
theorem dX10_all_53 : decode cX10_all 53 = .ok (.iload_n 2, 1) := by decide +kernel
theorem dX10_all_54 : decode cX10_all 54 = .ok (.iaload, 1) := by decide +kernel
theorem dX10_all_55 : decode cX10_all 55 = .ok (.ireturn, 1) := by decide +kernel
theorem dX10_heap_0 : decode cX10_heap 0 = .ok (.aload_n 0, 1) := by decide +kernel
theorem dX10_heap_1 : decode cX10_heap 1 = .ok (.iload_n 1, 1) := by decide +kernel
theorem dX10_heap_2 : decode cX10_heap 2 = .ok (.invokevirtual 128, 3) := by decide +kernel
theorem dX10_heap_5 : decode cX10_heap 5 = .ok (.ifCond .ne 6, 3) := by decide +kernel
theorem dX10_heap_8 : decode cX10_heap 8 = .ok (.bipush (-2), 2) := by decide +kernel
theorem dX10_heap_10 : decode cX10_heap 10 = .ok (.ireturn, 1) := by decide +kernel
theorem dX10_heap_11 : decode cX10_heap 11 = .ok (.aload_n 0, 1) := by decide +kernel
theorem dX10_heap_12 : decode cX10_heap 12 = .ok (.getfield 113, 3) := by decide +kernel
theorem dX10_heap_15 : decode cX10_heap 15 = .ok (.iload_n 1, 1) := by decide +kernel
theorem dX10_heap_16 : decode cX10_heap 16 = .ok (.ishr, 1) := by decide +kernel
theorem dX10_heap_17 : decode cX10_heap 17 = .ok (.iconst 1, 1) := by decide +kernel
theorem dX10_heap_18 : decode cX10_heap 18 = .ok (.iand, 1) := by decide +kernel
theorem dX10_heap_19 : decode cX10_heap 19 = .ok (.iconst 1, 1) := by decide +kernel
theorem dX10_heap_20 : decode cX10_heap 20 = .ok (.if_icmp .ne 6, 3) := by decide +kernel
theorem dX10_heap_23 : decode cX10_heap 23 = .ok (.bipush (-3), 2) := by decide +kernel
theorem dX10_heap_25 : decode cX10_heap 25 = .ok (.ireturn, 1) := by decide +kernel
theorem dX10_heap_26 : decode cX10_heap 26 = .ok (.aload_n 0, 1) := by decide +kernel
theorem dX10_heap_27 : decode cX10_heap 27 = .ok (.invokevirtual 318, 3) := by decide +kernel
theorem dX10_heap_30 : decode cX10_heap 30 = .ok (.aload_n 0, 1) := by decide +kernel
theorem dX10_heap_31 : decode cX10_heap 31 = .ok (.invokevirtual 288, 3) := by decide +kernel
theorem dX10_heap_34 : decode cX10_heap 34 = .ok (.istore_n 2, 1) := by decide +kernel
theorem dX10_heap_35 : decode cX10_heap 35 = .ok (.aload_n 0, 1) := by decide +kernel
theorem dX10_heap_36 : decode cX10_heap 36 = .ok (.getfield 50, 3) := by decide +kernel
theorem dX10_heap_39 : decode cX10_heap 39 = .ok (.iload_n 2, 1) := by decide +kernel
theorem dX10_heap_40 : decode cX10_heap 40 = .ok (.iaload, 1) := by decide +kernel
theorem dX10_heap_41 : decode cX10_heap 41 = .ok (.iconst (-1), 1) := by decide +kernel
theorem dX10_heap_42 : decode cX10_heap 42 = .ok (.if_icmp .ne 5, 3) := by decide +kernel
theorem dX10_heap_45 : decode cX10_heap 45 = .ok (.iconst (-1), 1) := by decide +kernel
theorem dX10_heap_46 : decode cX10_heap 46 = .ok (.ireturn, 1) := by decide +kernel
theorem dX10_heap_47 : decode cX10_heap 47 = .ok (.aload_n 0, 1) := by decide +kernel
theorem dX10_heap_48 : decode cX10_heap 48 = .ok (.getfield 56, 3) := by decide +kernel
theorem dX10_heap_51 : decode cX10_heap 51 = .ok (.iload_n 2, 1) := by decide +kernel
theorem dX10_heap_52 : decode cX10_heap 52 = .ok (.iaload, 1) := by decide +kernel
theorem dX10_heap_53 : decode cX10_heap 53 = .ok (.iload_n 1, 1) := by decide +kernel
theorem dX10_heap_54 : decode cX10_heap 54 = .ok (.ishr, 1) := by decide +kernel
theorem dX10_heap_55 : decode cX10_heap 55 = .ok (.iconst 1, 1) := by decide +kernel
theorem dX10_heap_56 : decode cX10_heap 56 = .ok (.iand, 1) := by decide +kernel
theorem dX10_heap_57 : decode cX10_heap 57 = .ok (.ifCond .ne 17, 3) := by decide +kernel
theorem dX10_heap_60 : decode cX10_heap 60 = .ok (.iload_n 2, 1) := by decide +kernel
theorem dX10_heap_61 : decode cX10_heap 61 = .ok (.aload_n 0, 1) := by decide +kernel
theorem dX10_heap_62 : decode cX10_heap 62 = .ok (.getfield 56, 3) := by decide +kernel
theorem dX10_heap_65 : decode cX10_heap 65 = .ok (.iload_n 2, 1) := by decide +kernel
theorem dX10_heap_66 : decode cX10_heap 66 = .ok (.iaload, 1) := by decide +kernel
theorem dX10_heap_67 : decode cX10_heap 67 = .ok (.iconst (-1), 1) := by decide +kernel
theorem dX10_heap_68 : decode cX10_heap 68 = .ok (.ixor, 1) := by decide +kernel
theorem dX10_heap_69 : decode cX10_heap 69 = .ok (.iand, 1) := by decide +kernel
theorem dX10_heap_70 : decode cX10_heap 70 = .ok (.istore_n 2, 1) := by decide +kernel
theorem dX10_heap_71 : decode cX10_heap 71 = .ok (.goto (-24), 3) := by decide +kernel
theorem dX10_heap_74 : decode cX10_heap 74 = .ok (.aload_n 0, 1) := by decide +kernel
theorem dX10_heap_75 : decode cX10_heap 75 = .ok (.getfield 56, 3) := by decide +kernel
theorem dX10_heap_78 : decode cX10_heap 78 = .ok (.iload_n 2, 1) := by decide +kernel
theorem dX10_heap_79 : decode cX10_heap 79 = .ok (.iaload, 1) := by decide +kernel
theorem dX10_heap_80 : decode cX10_heap 80 = .ok (.ireturn, 1) := by decide +kernel
theorem dX10_eachOne_0 : decode cX10_eachOne 0 = .ok (.iconst 0, 1) := by decide +kernel
theorem dX10_eachOne_1 : decode cX10_eachOne 1 = .ok (.istore_n 1, 1) := by decide +kernel
theorem dX10_eachOne_2 : decode cX10_eachOne 2 = .ok (.iload_n 1, 1) := by decide +kernel
theorem dX10_eachOne_3 : decode cX10_eachOne 3 = .ok (.sipush 128, 3) := by decide +kernel
theorem dX10_eachOne_6 : decode cX10_eachOne 6 = .ok (.if_icmp .ge 24, 3) := by decide +kernel
theorem dX10_eachOne_9 : decode cX10_eachOne 9 = .ok (.aload_n 0, 1) := by decide +kernel
theorem dX10_eachOne_10 : decode cX10_eachOne 10 = .ok (.getfield 62, 3) := by decide +kernel
theorem dX10_eachOne_13 : decode cX10_eachOne 13 = .ok (.iload_n 1, 1) := by decide +kernel
theorem dX10_eachOne_14 : decode cX10_eachOne 14 = .ok (.iload_n 1, 1) := by decide +kernel
theorem dX10_eachOne_15 : decode cX10_eachOne 15 = .ok (.ifCond .ne 7, 3) := by decide +kernel
theorem dX10_eachOne_18 : decode cX10_eachOne 18 = .ok (.iconst 0, 1) := by decide +kernel
theorem dX10_eachOne_19 : decode cX10_eachOne 19 = .ok (.goto 4, 3) := by decide +kernel
theorem dX10_eachOne_22 : decode cX10_eachOne 22 = .ok (.iconst (-1), 1) := by decide +kernel
theorem dX10_eachOne_23 : decode cX10_eachOne 23 = .ok (.iastore, 1) := by decide +kernel
theorem dX10_eachOne_24 : decode cX10_eachOne 24 = .ok (.iinc 1 1, 3) := by decide +kernel
theorem dX10_eachOne_27 : decode cX10_eachOne 27 = .ok (.goto (-25), 3) := by decide +kernel
theorem dX10_eachOne_30 : decode cX10_eachOne 30 = .ok (.iconst 0, 1) := by decide +kernel
theorem dX10_eachOne_31 : decode cX10_eachOne 31 = .ok (.istore_n 1, 1) := by decide +kernel
theorem dX10_eachOne_32 : decode cX10_eachOne 32 = .ok (.iload_n 1, 1) := by decide +kernel
theorem dX10_eachOne_33 : decode cX10_eachOne 33 = .ok (.aload_n 0, 1) := by decide +kernel
theorem dX10_eachOne_34 : decode cX10_eachOne 34 = .ok (.getfield 110, 3) := by decide +kernel
theorem dX10_eachOne_37 : decode cX10_eachOne 37 = .ok (.if_icmp .ge 190, 3) := by decide +kernel
theorem dX10_eachOne_40 : decode cX10_eachOne 40 = .ok (.aload_n 0, 1) := by decide +kernel
theorem dX10_eachOne_41 : decode cX10_eachOne 41 = .ok (.getfield 113, 3) := by decide +kernel
theorem dX10_eachOne_44 : decode cX10_eachOne 44 = .ok (.iload_n 1, 1) := by decide +kernel
theorem dX10_eachOne_45 : decode cX10_eachOne 45 = .ok (.ishr, 1) := by decide +kernel
theorem dX10_eachOne_46 : decode cX10_eachOne 46 = .ok (.iconst 1, 1) := by decide +kernel
theorem dX10_eachOne_47 : decode cX10_eachOne 47 = .ok (.iand, 1) := by decide +kernel
theorem dX10_eachOne_48 : decode cX10_eachOne 48 = .ok (.ifCond .ne 173, 3) := by decide +kernel
theorem dX10_eachOne_51 : decode cX10_eachOne 51 = .ok (.iconst 0, 1) := by decide +kernel
theorem dX10_eachOne_52 : decode cX10_eachOne 52 = .ok (.istore_n 2, 1) := by decide +kernel
theorem dX10_eachOne_53 : decode cX10_eachOne 53 = .ok (.iload_n 2, 1) := by decide +kernel
theorem dX10_eachOne_54 : decode cX10_eachOne 54 = .ok (.sipush 128, 3) := by decide +kernel
theorem dX10_eachOne_57 : decode cX10_eachOne 57 = .ok (.if_icmp .ge 16, 3) := by decide +kernel
theorem dX10_eachOne_60 : decode cX10_eachOne 60 = .ok (.aload_n 0, 1) := by decide +kernel
theorem dX10_eachOne_61 : decode cX10_eachOne 61 = .ok (.getfield 65, 3) := by decide +kernel
theorem dX10_eachOne_64 : decode cX10_eachOne 64 = .ok (.iload_n 2, 1) := by decide +kernel
theorem dX10_eachOne_65 : decode cX10_eachOne 65 = .ok (.iconst (-1), 1) := by decide +kernel
theorem dX10_eachOne_66 : decode cX10_eachOne 66 = .ok (.iastore, 1) := by decide +kernel
theorem dX10_eachOne_67 : decode cX10_eachOne 67 = .ok (.iinc 2 1, 3) := by decide +kernel
theorem dX10_eachOne_70 : decode cX10_eachOne 70 = .ok (.goto (-17), 3) := by decide +kernel
theorem dX10_eachOne_73 : decode cX10_eachOne 73 = .ok (.iconst 0, 1) := by decide +kernel
theorem dX10_eachOne_74 : decode cX10_eachOne 74 = .ok (.istore_n 2, 1) := by decide +kernel
theorem dX10_eachOne_75 : decode cX10_eachOne 75 = .ok (.iload_n 2, 1) := by decide +kernel
theorem dX10_eachOne_76 : decode cX10_eachOne 76 = .ok (.aload_n 0, 1) := by decide +kernel
theorem dX10_eachOne_77 : decode cX10_eachOne 77 = .ok (.getfield 103, 3) := by decide +kernel
theorem dX10_eachOne_80 : decode cX10_eachOne 80 = .ok (.if_icmp .ge 114, 3) := by decide +kernel
theorem dX10_eachOne_83 : decode cX10_eachOne 83 = .ok (.aload_n 0, 1) := by decide +kernel
theorem dX10_eachOne_84 : decode cX10_eachOne 84 = .ok (.iload_n 2, 1) := by decide +kernel
theorem dX10_eachOne_85 : decode cX10_eachOne 85 = .ok (.iconst 1, 1) := by decide +kernel
theorem dX10_eachOne_86 : decode cX10_eachOne 86 = .ok (.iload_n 1, 1) := by decide +kernel
theorem dX10_eachOne_87 : decode cX10_eachOne 87 = .ok (.ishl, 1) := by decide +kernel
theorem dX10_eachOne_88 : decode cX10_eachOne 88 = .ok (.iconst 0, 1) := by decide +kernel
theorem dX10_eachOne_89 : decode cX10_eachOne 89 = .ok (.invokevirtual 297, 3) := by decide +kernel
theorem dX10_eachOne_92 : decode cX10_eachOne 92 = .ok (.istore_n 3, 1) := by decide +kernel
theorem dX10_eachOne_93 : decode cX10_eachOne 93 = .ok (.iconst 0, 1) := by decide +kernel
theorem dX10_eachOne_94 : decode cX10_eachOne 94 = .ok (.istore 4, 2) := by decide +kernel
theorem dX10_eachOne_96 : decode cX10_eachOne 96 = .ok (.iload 4, 2) := by decide +kernel
theorem dX10_eachOne_98 : decode cX10_eachOne 98 = .ok (.sipush 128, 3) := by decide +kernel
theorem dX10_eachOne_101 : decode cX10_eachOne 101 = .ok (.if_icmp .ge 87, 3) := by decide +kernel
theorem dX10_eachOne_104 : decode cX10_eachOne 104 = .ok (.iload_n 3, 1) := by decide +kernel
theorem dX10_eachOne_105 : decode cX10_eachOne 105 = .ok (.bipush (-5), 2) := by decide +kernel
theorem dX10_eachOne_107 : decode cX10_eachOne 107 = .ok (.if_icmp .eq 81, 3) := by decide +kernel
theorem dX10_eachOne_110 : decode cX10_eachOne 110 = .ok (.iload 4, 2) := by decide +kernel
theorem dX10_eachOne_112 : decode cX10_eachOne 112 = .ok (.iconst 1, 1) := by decide +kernel
theorem dX10_eachOne_113 : decode cX10_eachOne 113 = .ok (.iload_n 2, 1) := by decide +kernel
theorem dX10_eachOne_114 : decode cX10_eachOne 114 = .ok (.ishl, 1) := by decide +kernel
theorem dX10_eachOne_115 : decode cX10_eachOne 115 = .ok (.ior, 1) := by decide +kernel
theorem dX10_eachOne_116 : decode cX10_eachOne 116 = .ok (.istore 5, 2) := by decide +kernel
theorem dX10_eachOne_118 : decode cX10_eachOne 118 = .ok (.aload_n 0, 1) := by decide +kernel
theorem dX10_eachOne_119 : decode cX10_eachOne 119 = .ok (.getfield 62, 3) := by decide +kernel
theorem dX10_eachOne_122 : decode cX10_eachOne 122 = .ok (.iload 4, 2) := by decide +kernel
theorem dX10_eachOne_124 : decode cX10_eachOne 124 = .ok (.iaload, 1) := by decide +kernel
theorem dX10_eachOne_125 : decode cX10_eachOne 125 = .ok (.iconst (-1), 1) := by decide +kernel
theorem dX10_eachOne_126 : decode cX10_eachOne 126 = .ok (.if_icmp .eq 56, 3) := by decide +kernel
theorem dX10_eachOne_129 : decode cX10_eachOne 129 = .ok (.iload 5, 2) := by decide +kernel
theorem dX10_eachOne_131 : decode cX10_eachOne 131 = .ok (.iload 4, 2) := by decide +kernel
theorem dX10_eachOne_133 : decode cX10_eachOne 133 = .ok (.if_icmp .eq 49, 3) := by decide +kernel
theorem dX10_eachOne_136 : decode cX10_eachOne 136 = .ok (.aload_n 0, 1) := by decide +kernel
theorem dX10_eachOne_137 : decode cX10_eachOne 137 = .ok (.getfield 65, 3) := by decide +kernel
theorem dX10_eachOne_140 : decode cX10_eachOne 140 = .ok (.iload 5, 2) := by decide +kernel
theorem dX10_eachOne_142 : decode cX10_eachOne 142 = .ok (.iaload, 1) := by decide +kernel
theorem dX10_eachOne_143 : decode cX10_eachOne 143 = .ok (.iconst (-1), 1) := by decide +kernel
theorem dX10_eachOne_144 : decode cX10_eachOne 144 = .ok (.if_icmp .eq 22, 3) := by decide +kernel
theorem dX10_eachOne_147 : decode cX10_eachOne 147 = .ok (.aload_n 0, 1) := by decide +kernel
theorem dX10_eachOne_148 : decode cX10_eachOne 148 = .ok (.getfield 62, 3) := by decide +kernel
theorem dX10_eachOne_151 : decode cX10_eachOne 151 = .ok (.iload 4, 2) := by decide +kernel
theorem dX10_eachOne_153 : decode cX10_eachOne 153 = .ok (.iaload, 1) := by decide +kernel
theorem dX10_eachOne_154 : decode cX10_eachOne 154 = .ok (.iload_n 3, 1) := by decide +kernel
theorem dX10_eachOne_155 : decode cX10_eachOne 155 = .ok (.iadd, 1) := by decide +kernel
theorem dX10_eachOne_156 : decode cX10_eachOne 156 = .ok (.aload_n 0, 1) := by decide +kernel
theorem dX10_eachOne_157 : decode cX10_eachOne 157 = .ok (.getfield 65, 3) := by decide +kernel
theorem dX10_eachOne_160 : decode cX10_eachOne 160 = .ok (.iload 5, 2) := by decide +kernel
theorem dX10_eachOne_162 : decode cX10_eachOne 162 = .ok (.iaload, 1) := by decide +kernel
theorem dX10_eachOne_163 : decode cX10_eachOne 163 = .ok (.if_icmp .ge 19, 3) := by decide +kernel
theorem dX10_eachOne_166 : decode cX10_eachOne 166 = .ok (.aload_n 0, 1) := by decide +kernel
theorem dX10_eachOne_167 : decode cX10_eachOne 167 = .ok (.getfield 65, 3) := by decide +kernel
theorem dX10_eachOne_170 : decode cX10_eachOne 170 = .ok (.iload 5, 2) := by decide +kernel
theorem dX10_eachOne_172 : decode cX10_eachOne 172 = .ok (.aload_n 0, 1) := by decide +kernel
theorem dX10_eachOne_173 : decode cX10_eachOne 173 = .ok (.getfield 62, 3) := by decide +kernel
theorem dX10_eachOne_176 : decode cX10_eachOne 176 = .ok (.iload 4, 2) := by decide +kernel
theorem dX10_eachOne_178 : decode cX10_eachOne 178 = .ok (.iaload, 1) := by decide +kernel
theorem dX10_eachOne_179 : decode cX10_eachOne 179 = .ok (.iload_n 3, 1) := by decide +kernel
theorem dX10_eachOne_180 : decode cX10_eachOne 180 = .ok (.iadd, 1) := by decide +kernel
theorem dX10_eachOne_181 : decode cX10_eachOne 181 = .ok (.iastore, 1) := by decide +kernel
theorem dX10_eachOne_182 : decode cX10_eachOne 182 = .ok (.iinc 4 1, 3) := by decide +kernel
theorem dX10_eachOne_185 : decode cX10_eachOne 185 = .ok (.goto (-89), 3) := by decide +kernel
theorem dX10_eachOne_188 : decode cX10_eachOne 188 = .ok (.iinc 2 1, 3) := by decide +kernel
theorem dX10_eachOne_191 : decode cX10_eachOne 191 = .ok (.goto (-116), 3) := by decide +kernel
theorem dX10_eachOne_194 : decode cX10_eachOne 194 = .ok (.iconst 0, 1) := by decide +kernel
theorem dX10_eachOne_195 : decode cX10_eachOne 195 = .ok (.istore_n 2, 1) := by decide +kernel
theorem dX10_eachOne_196 : decode cX10_eachOne 196 = .ok (.iload_n 2, 1) := by decide +kernel
theorem dX10_eachOne_197 : decode cX10_eachOne 197 = .ok (.sipush 128, 3) := by decide +kernel
theorem dX10_eachOne_200 : decode cX10_eachOne 200 = .ok (.if_icmp .ge 21, 3) := by decide +kernel
theorem dX10_eachOne_203 : decode cX10_eachOne 203 = .ok (.aload_n 0, 1) := by decide +kernel
theorem dX10_eachOne_204 : decode cX10_eachOne 204 = .ok (.getfield 62, 3) := by decide +kernel
theorem dX10_eachOne_207 : decode cX10_eachOne 207 = .ok (.iload_n 2, 1) := by decide +kernel
theorem dX10_eachOne_208 : decode cX10_eachOne 208 = .ok (.aload_n 0, 1) := by decide +kernel
theorem dX10_eachOne_209 : decode cX10_eachOne 209 = .ok (.getfield 65, 3) := by decide +kernel
theorem dX10_eachOne_212 : decode cX10_eachOne 212 = .ok (.iload_n 2, 1) := by decide +kernel
theorem dX10_eachOne_213 : decode cX10_eachOne 213 = .ok (.iaload, 1) := by decide +kernel
theorem dX10_eachOne_214 : decode cX10_eachOne 214 = .ok (.iastore, 1) := by decide +kernel
theorem dX10_eachOne_215 : decode cX10_eachOne 215 = .ok (.iinc 2 1, 3) := by decide +kernel
theorem dX10_eachOne_218 : decode cX10_eachOne 218 = .ok (.goto (-22), 3) := by decide +kernel
theorem dX10_eachOne_221 : decode cX10_eachOne 221 = .ok (.iinc 1 1, 3) := by decide +kernel
theorem dX10_eachOne_224 : decode cX10_eachOne 224 = .ok (.goto (-192), 3) := by decide +kernel
theorem dX10_eachOne_227 : decode cX10_eachOne 227 = .ok (.iconst (-1), 1) := by decide +kernel
theorem dX10_eachOne_228 : decode cX10_eachOne 228 = .ok (.istore_n 1, 1) := by decide +kernel
theorem dX10_eachOne_229 : decode cX10_eachOne 229 = .ok (.iconst 0, 1) := by decide +kernel
theorem dX10_eachOne_230 : decode cX10_eachOne 230 = .ok (.istore_n 2, 1) := by decide +kernel
theorem dX10_eachOne_231 : decode cX10_eachOne 231 = .ok (.iload_n 2, 1) := by decide +kernel
theorem dX10_eachOne_232 : decode cX10_eachOne 232 = .ok (.sipush 128, 3) := by decide +kernel
theorem dX10_eachOne_235 : decode cX10_eachOne 235 = .ok (.if_icmp .ge 41, 3) := by decide +kernel
theorem dX10_eachOne_238 : decode cX10_eachOne 238 = .ok (.aload_n 0, 1) := by decide +kernel
theorem dX10_eachOne_239 : decode cX10_eachOne 239 = .ok (.getfield 62, 3) := by decide +kernel
theorem dX10_eachOne_242 : decode cX10_eachOne 242 = .ok (.iload_n 2, 1) := by decide +kernel
theorem dX10_eachOne_243 : decode cX10_eachOne 243 = .ok (.iaload, 1) := by decide +kernel
theorem dX10_eachOne_244 : decode cX10_eachOne 244 = .ok (.iconst (-1), 1) := by decide +kernel
theorem dX10_eachOne_245 : decode cX10_eachOne 245 = .ok (.if_icmp .eq 25, 3) := by decide +kernel
theorem dX10_eachOne_248 : decode cX10_eachOne 248 = .ok (.iload_n 1, 1) := by decide +kernel
theorem dX10_eachOne_249 : decode cX10_eachOne 249 = .ok (.iconst (-1), 1) := by decide +kernel
theorem dX10_eachOne_250 : decode cX10_eachOne 250 = .ok (.if_icmp .eq 13, 3) := by decide +kernel
theorem dX10_eachOne_253 : decode cX10_eachOne 253 = .ok (.aload_n 0, 1) := by decide +kernel
theorem dX10_eachOne_254 : decode cX10_eachOne 254 = .ok (.getfield 62, 3) := by decide +kernel
theorem dX10_eachOne_257 : decode cX10_eachOne 257 = .ok (.iload_n 2, 1) := by decide +kernel
theorem dX10_eachOne_258 : decode cX10_eachOne 258 = .ok (.iaload, 1) := by decide +kernel
theorem dX10_eachOne_259 : decode cX10_eachOne 259 = .ok (.iload_n 1, 1) := by decide +kernel
theorem dX10_eachOne_260 : decode cX10_eachOne 260 = .ok (.if_icmp .ge 10, 3) := by decide +kernel
theorem dX10_eachOne_263 : decode cX10_eachOne 263 = .ok (.aload_n 0, 1) := by decide +kernel
theorem dX10_eachOne_264 : decode cX10_eachOne 264 = .ok (.getfield 62, 3) := by decide +kernel
theorem dX10_eachOne_267 : decode cX10_eachOne 267 = .ok (.iload_n 2, 1) := by decide +kernel
theorem dX10_eachOne_268 : decode cX10_eachOne 268 = .ok (.iaload, 1) := by decide +kernel
theorem dX10_eachOne_269 : decode cX10_eachOne 269 = .ok (.istore_n 1, 1) := by decide +kernel
theorem dX10_eachOne_270 : decode cX10_eachOne 270 = .ok (.iinc 2 1, 3) := by decide +kernel
theorem dX10_eachOne_273 : decode cX10_eachOne 273 = .ok (.goto (-42), 3) := by decide +kernel
theorem dX10_eachOne_276 : decode cX10_eachOne 276 = .ok (.iload_n 1, 1) := by decide +kernel
theorem dX10_eachOne_277 : decode cX10_eachOne 277 = .ok (.ireturn, 1) := by decide +kernel
theorem dX10_gain_0 : decode cX10_gain 0 = .ok (.aload_n 0, 1) := by decide +kernel
theorem dX10_gain_1 : decode cX10_gain 1 = .ok (.iload_n 1, 1) := by decide +kernel
theorem dX10_gain_2 : decode cX10_gain 2 = .ok (.invokevirtual 128, 3) := by decide +kernel
theorem dX10_gain_5 : decode cX10_gain 5 = .ok (.ifCond .eq 25, 3) := by decide +kernel
theorem dX10_gain_8 : decode cX10_gain 8 = .ok (.iload_n 2, 1) := by decide +kernel
theorem dX10_gain_9 : decode cX10_gain 9 = .ok (.i2l, 1) := by decide +kernel
theorem dX10_gain_10 : decode cX10_gain 10 = .ok (.lconst 0, 1) := by decide +kernel
theorem dX10_gain_11 : decode cX10_gain 11 = .ok (.lconst 1, 1) := by decide +kernel
theorem dX10_gain_12 : decode cX10_gain 12 = .ok (.invokestatic 106, 3) := by decide +kernel
theorem dX10_gain_15 : decode cX10_gain 15 = .ok (.ifCond .eq 15, 3) := by decide +kernel
theorem dX10_gain_18 : decode cX10_gain 18 = .ok (.aload_n 0, 1) := by decide +kernel
theorem dX10_gain_19 : decode cX10_gain 19 = .ok (.getfield 113, 3) := by decide +kernel
theorem dX10_gain_22 : decode cX10_gain 22 = .ok (.iload_n 1, 1) := by decide +kernel
theorem dX10_gain_23 : decode cX10_gain 23 = .ok (.ishr, 1) := by decide +kernel
theorem dX10_gain_24 : decode cX10_gain 24 = .ok (.iconst 1, 1) := by decide +kernel
theorem dX10_gain_25 : decode cX10_gain 25 = .ok (.iand, 1) := by decide +kernel
theorem dX10_gain_26 : decode cX10_gain 26 = .ok (.iconst 1, 1) := by decide +kernel
theorem dX10_gain_27 : decode cX10_gain 27 = .ok (.if_icmp .ne 7, 3) := by decide +kernel
theorem dX10_gain_30 : decode cX10_gain 30 = .ok (.ldc2_w 321, 3) := by decide +kernel
theorem dX10_gain_33 : decode cX10_gain 33 = .ok (.lreturn, 1) := by decide +kernel
theorem dX10_gain_34 : decode cX10_gain 34 = .ok (.iconst (-1), 1) := by decide +kernel
theorem dX10_gain_35 : decode cX10_gain 35 = .ok (.istore_n 3, 1) := by decide +kernel
theorem dX10_gain_36 : decode cX10_gain 36 = .ok (.iconst 0, 1) := by decide +kernel
theorem dX10_gain_37 : decode cX10_gain 37 = .ok (.istore 4, 2) := by decide +kernel
theorem dX10_gain_39 : decode cX10_gain 39 = .ok (.iconst 0, 1) := by decide +kernel
theorem dX10_gain_40 : decode cX10_gain 40 = .ok (.istore 5, 2) := by decide +kernel
theorem dX10_gain_42 : decode cX10_gain 42 = .ok (.iload 5, 2) := by decide +kernel
theorem dX10_gain_44 : decode cX10_gain 44 = .ok (.aload_n 0, 1) := by decide +kernel
theorem dX10_gain_45 : decode cX10_gain 45 = .ok (.getfield 103, 3) := by decide +kernel
theorem dX10_gain_48 : decode cX10_gain 48 = .ok (.if_icmp .ge 78, 3) := by decide +kernel
theorem dX10_gain_51 : decode cX10_gain 51 = .ok (.aload_n 0, 1) := by decide +kernel
theorem dX10_gain_52 : decode cX10_gain 52 = .ok (.iload 5, 2) := by decide +kernel
theorem dX10_gain_54 : decode cX10_gain 54 = .ok (.iconst 1, 1) := by decide +kernel
theorem dX10_gain_55 : decode cX10_gain 55 = .ok (.iload_n 1, 1) := by decide +kernel
theorem dX10_gain_56 : decode cX10_gain 56 = .ok (.ishl, 1) := by decide +kernel
theorem dX10_gain_57 : decode cX10_gain 57 = .ok (.iconst 0, 1) := by decide +kernel
theorem dX10_gain_58 : decode cX10_gain 58 = .ok (.invokevirtual 297, 3) := by decide +kernel
theorem dX10_gain_61 : decode cX10_gain 61 = .ok (.istore 6, 2) := by decide +kernel
theorem dX10_gain_63 : decode cX10_gain 63 = .ok (.iload 6, 2) := by decide +kernel
theorem dX10_gain_65 : decode cX10_gain 65 = .ok (.bipush (-5), 2) := by decide +kernel
theorem dX10_gain_67 : decode cX10_gain 67 = .ok (.if_icmp .eq 53, 3) := by decide +kernel
theorem dX10_gain_70 : decode cX10_gain 70 = .ok (.aload_n 0, 1) := by decide +kernel
theorem dX10_gain_71 : decode cX10_gain 71 = .ok (.iload 5, 2) := by decide +kernel
theorem dX10_gain_73 : decode cX10_gain 73 = .ok (.iconst 1, 1) := by decide +kernel
theorem dX10_gain_74 : decode cX10_gain 74 = .ok (.iload_n 1, 1) := by decide +kernel
theorem dX10_gain_75 : decode cX10_gain 75 = .ok (.ishl, 1) := by decide +kernel
theorem dX10_gain_76 : decode cX10_gain 76 = .ok (.iconst 0, 1) := by decide +kernel
theorem dX10_gain_77 : decode cX10_gain 77 = .ok (.invokevirtual 278, 3) := by decide +kernel
theorem dX10_gain_80 : decode cX10_gain 80 = .ok (.aload_n 0, 1) := by decide +kernel
theorem dX10_gain_81 : decode cX10_gain 81 = .ok (.aload_n 0, 1) := by decide +kernel
theorem dX10_gain_82 : decode cX10_gain 82 = .ok (.getfield 270, 3) := by decide +kernel
theorem dX10_gain_85 : decode cX10_gain 85 = .ok (.iconst 2, 1) := by decide +kernel
theorem dX10_gain_86 : decode cX10_gain 86 = .ok (.invokevirtual 266, 3) := by decide +kernel
theorem dX10_gain_89 : decode cX10_gain 89 = .ok (.iconst 0, 1) := by decide +kernel
theorem dX10_gain_90 : decode cX10_gain 90 = .ok (.sipush 999, 3) := by decide +kernel
theorem dX10_gain_93 : decode cX10_gain 93 = .ok (.invokestatic 282, 3) := by decide +kernel
theorem dX10_gain_96 : decode cX10_gain 96 = .ok (.iload 6, 2) := by decide +kernel
theorem dX10_gain_98 : decode cX10_gain 98 = .ok (.isub, 1) := by decide +kernel
theorem dX10_gain_99 : decode cX10_gain 99 = .ok (.istore 7, 2) := by decide +kernel
theorem dX10_gain_101 : decode cX10_gain 101 = .ok (.iload_n 3, 1) := by decide +kernel
theorem dX10_gain_102 : decode cX10_gain 102 = .ok (.iconst (-1), 1) := by decide +kernel
theorem dX10_gain_103 : decode cX10_gain 103 = .ok (.if_icmp .eq 10, 3) := by decide +kernel
theorem dX10_gain_106 : decode cX10_gain 106 = .ok (.iload 7, 2) := by decide +kernel
theorem dX10_gain_108 : decode cX10_gain 108 = .ok (.iload 4, 2) := by decide +kernel
theorem dX10_gain_110 : decode cX10_gain 110 = .ok (.if_icmp .le 10, 3) := by decide +kernel
theorem dX10_gain_113 : decode cX10_gain 113 = .ok (.iload 5, 2) := by decide +kernel
theorem dX10_gain_115 : decode cX10_gain 115 = .ok (.istore_n 3, 1) := by decide +kernel
theorem dX10_gain_116 : decode cX10_gain 116 = .ok (.iload 7, 2) := by decide +kernel
theorem dX10_gain_118 : decode cX10_gain 118 = .ok (.istore 4, 2) := by decide +kernel
theorem dX10_gain_120 : decode cX10_gain 120 = .ok (.iinc 5 1, 3) := by decide +kernel
theorem dX10_gain_123 : decode cX10_gain 123 = .ok (.goto (-81), 3) := by decide +kernel
theorem dX10_gain_126 : decode cX10_gain 126 = .ok (.iload_n 3, 1) := by decide +kernel
theorem dX10_gain_127 : decode cX10_gain 127 = .ok (.iconst (-1), 1) := by decide +kernel
theorem dX10_gain_128 : decode cX10_gain 128 = .ok (.if_icmp .ne 9, 3) := by decide +kernel
theorem dX10_gain_131 : decode cX10_gain 131 = .ok (.ldc2_w 321, 3) := by decide +kernel
theorem dX10_gain_134 : decode cX10_gain 134 = .ok (.goto 15, 3) := by decide +kernel
theorem dX10_gain_137 : decode cX10_gain 137 = .ok (.iload_n 2, 1) := by decide +kernel
theorem dX10_gain_138 : decode cX10_gain 138 = .ok (.ifCond .ne 9, 3) := by decide +kernel
theorem dX10_gain_141 : decode cX10_gain 141 = .ok (.iload 4, 2) := by decide +kernel
theorem dX10_gain_143 : decode cX10_gain 143 = .ok (.i2l, 1) := by decide +kernel
theorem dX10_gain_144 : decode cX10_gain 144 = .ok (.goto 5, 3) := by decide +kernel
theorem dX10_gain_147 : decode cX10_gain 147 = .ok (.iload_n 3, 1) := by decide +kernel
theorem dX10_gain_148 : decode cX10_gain 148 = .ok (.i2l, 1) := by decide +kernel
theorem dX10_gain_149 : decode cX10_gain 149 = .ok (.lreturn, 1) := by decide +kernel
theorem dX10_year_0 : decode cX10_year 0 = .ok (.iconst 0, 1) := by decide +kernel
theorem dX10_year_1 : decode cX10_year 1 = .ok (.istore_n 1, 1) := by decide +kernel
theorem dX10_year_2 : decode cX10_year 2 = .ok (.iconst 0, 1) := by decide +kernel
theorem dX10_year_3 : decode cX10_year 3 = .ok (.istore_n 2, 1) := by decide +kernel
theorem dX10_year_4 : decode cX10_year 4 = .ok (.iload_n 2, 1) := by decide +kernel
theorem dX10_year_5 : decode cX10_year 5 = .ok (.aload_n 0, 1) := by decide +kernel
theorem dX10_year_6 : decode cX10_year 6 = .ok (.getfield 110, 3) := by decide +kernel
theorem dX10_year_9 : decode cX10_year 9 = .ok (.if_icmp .ge 38, 3) := by decide +kernel
theorem dX10_year_12 : decode cX10_year 12 = .ok (.aload_n 0, 1) := by decide +kernel
theorem dX10_year_13 : decode cX10_year 13 = .ok (.getfield 113, 3) := by decide +kernel
theorem dX10_year_16 : decode cX10_year 16 = .ok (.iload_n 2, 1) := by decide +kernel
theorem dX10_year_17 : decode cX10_year 17 = .ok (.ishr, 1) := by decide +kernel
theorem dX10_year_18 : decode cX10_year 18 = .ok (.iconst 1, 1) := by decide +kernel
theorem dX10_year_19 : decode cX10_year 19 = .ok (.iand, 1) := by decide +kernel
theorem dX10_year_20 : decode cX10_year 20 = .ok (.ifCond .ne 21, 3) := by decide +kernel
theorem dX10_year_23 : decode cX10_year 23 = .ok (.aload_n 0, 1) := by decide +kernel
theorem dX10_year_24 : decode cX10_year 24 = .ok (.iload_n 2, 1) := by decide +kernel
theorem dX10_year_25 : decode cX10_year 25 = .ok (.bipush 51, 2) := by decide +kernel
theorem dX10_year_27 : decode cX10_year 27 = .ok (.invokevirtual 309, 3) := by decide +kernel
theorem dX10_year_30 : decode cX10_year 30 = .ok (.iconst (-1), 1) := by decide +kernel
theorem dX10_year_31 : decode cX10_year 31 = .ok (.if_icmp .eq 10, 3) := by decide +kernel
theorem dX10_year_34 : decode cX10_year 34 = .ok (.iload_n 1, 1) := by decide +kernel
theorem dX10_year_35 : decode cX10_year 35 = .ok (.aload_n 0, 1) := by decide +kernel
theorem dX10_year_36 : decode cX10_year 36 = .ok (.getfield 306, 3) := by decide +kernel
theorem dX10_year_39 : decode cX10_year 39 = .ok (.iadd, 1) := by decide +kernel
theorem dX10_year_40 : decode cX10_year 40 = .ok (.istore_n 1, 1) := by decide +kernel
theorem dX10_year_41 : decode cX10_year 41 = .ok (.iinc 2 1, 3) := by decide +kernel
theorem dX10_year_44 : decode cX10_year 44 = .ok (.goto (-40), 3) := by decide +kernel
theorem dX10_year_47 : decode cX10_year 47 = .ok (.iload_n 1, 1) := by decide +kernel
theorem dX10_year_48 : decode cX10_year 48 = .ok (.ireturn, 1) := by decide +kernel
theorem dX10_earns_0 : decode cX10_earns 0 = .ok (.iconst 0, 1) := by decide +kernel
theorem dX10_earns_1 : decode cX10_earns 1 = .ok (.istore_n 2, 1) := by decide +kernel
theorem dX10_earns_2 : decode cX10_earns 2 = .ok (.iconst 0, 1) := by decide +kernel
theorem dX10_earns_3 : decode cX10_earns 3 = .ok (.istore_n 3, 1) := by decide +kernel
theorem dX10_earns_4 : decode cX10_earns 4 = .ok (.iload_n 3, 1) := by decide +kernel
theorem dX10_earns_5 : decode cX10_earns 5 = .ok (.aload_n 0, 1) := by decide +kernel
theorem dX10_earns_6 : decode cX10_earns 6 = .ok (.getfield 110, 3) := by decide +kernel
theorem dX10_earns_9 : decode cX10_earns 9 = .ok (.if_icmp .ge 50, 3) := by decide +kernel
theorem dX10_earns_12 : decode cX10_earns 12 = .ok (.aload_n 0, 1) := by decide +kernel
theorem dX10_earns_13 : decode cX10_earns 13 = .ok (.getfield 113, 3) := by decide +kernel
theorem dX10_earns_16 : decode cX10_earns 16 = .ok (.iload_n 3, 1) := by decide +kernel
theorem dX10_earns_17 : decode cX10_earns 17 = .ok (.ishr, 1) := by decide +kernel
theorem dX10_earns_18 : decode cX10_earns 18 = .ok (.iconst 1, 1) := by decide +kernel
theorem dX10_earns_19 : decode cX10_earns 19 = .ok (.iand, 1) := by decide +kernel
theorem dX10_earns_20 : decode cX10_earns 20 = .ok (.ifCond .ne 33, 3) := by decide +kernel
theorem dX10_earns_23 : decode cX10_earns 23 = .ok (.aload_n 0, 1) := by decide +kernel
theorem dX10_earns_24 : decode cX10_earns 24 = .ok (.getfield 44, 3) := by decide +kernel
theorem dX10_earns_27 : decode cX10_earns 27 = .ok (.iload_n 3, 1) := by decide +kernel
theorem dX10_earns_28 : decode cX10_earns 28 = .ok (.iaload, 1) := by decide +kernel
theorem dX10_earns_29 : decode cX10_earns 29 = .ok (.iload_n 1, 1) := by decide +kernel
theorem dX10_earns_30 : decode cX10_earns 30 = .ok (.if_icmp .eq 23, 3) := by decide +kernel
theorem dX10_earns_33 : decode cX10_earns 33 = .ok (.aload_n 0, 1) := by decide +kernel
theorem dX10_earns_34 : decode cX10_earns 34 = .ok (.iconst 1, 1) := by decide +kernel
theorem dX10_earns_35 : decode cX10_earns 35 = .ok (.iload_n 3, 1) := by decide +kernel
theorem dX10_earns_36 : decode cX10_earns 36 = .ok (.ishl, 1) := by decide +kernel
theorem dX10_earns_37 : decode cX10_earns 37 = .ok (.iconst 0, 1) := by decide +kernel
theorem dX10_earns_38 : decode cX10_earns 38 = .ok (.invokevirtual 303, 3) := by decide +kernel
theorem dX10_earns_41 : decode cX10_earns 41 = .ok (.iload_n 1, 1) := by decide +kernel
theorem dX10_earns_42 : decode cX10_earns 42 = .ok (.if_icmp .ne 11, 3) := by decide +kernel
theorem dX10_earns_45 : decode cX10_earns 45 = .ok (.iload_n 2, 1) := by decide +kernel
theorem dX10_earns_46 : decode cX10_earns 46 = .ok (.aload_n 0, 1) := by decide +kernel
theorem dX10_earns_47 : decode cX10_earns 47 = .ok (.iload_n 1, 1) := by decide +kernel
theorem dX10_earns_48 : decode cX10_earns 48 = .ok (.invokevirtual 148, 3) := by decide +kernel
theorem dX10_earns_51 : decode cX10_earns 51 = .ok (.iadd, 1) := by decide +kernel
theorem dX10_earns_52 : decode cX10_earns 52 = .ok (.istore_n 2, 1) := by decide +kernel
theorem dX10_earns_53 : decode cX10_earns 53 = .ok (.iinc 3 1, 3) := by decide +kernel
theorem dX10_earns_56 : decode cX10_earns 56 = .ok (.goto (-52), 3) := by decide +kernel
theorem dX10_earns_59 : decode cX10_earns 59 = .ok (.iload_n 2, 1) := by decide +kernel
theorem dX10_earns_60 : decode cX10_earns 60 = .ok (.ireturn, 1) := by decide +kernel
theorem dX10_rest_0 : decode cX10_rest 0 = .ok (.aload_n 0, 1) := by decide +kernel
theorem dX10_rest_1 : decode cX10_rest 1 = .ok (.iload_n 1, 1) := by decide +kernel
theorem dX10_rest_2 : decode cX10_rest 2 = .ok (.invokevirtual 132, 3) := by decide +kernel
theorem dX10_rest_5 : decode cX10_rest 5 = .ok (.ifCond .ne 6, 3) := by decide +kernel
theorem dX10_rest_8 : decode cX10_rest 8 = .ok (.bipush (-2), 2) := by decide +kernel
theorem dX10_rest_10 : decode cX10_rest 10 = .ok (.ireturn, 1) := by decide +kernel
theorem dX10_rest_11 : decode cX10_rest 11 = .ok (.iconst 0, 1) := by decide +kernel
theorem dX10_rest_12 : decode cX10_rest 12 = .ok (.istore_n 2, 1) := by decide +kernel
theorem dX10_rest_13 : decode cX10_rest 13 = .ok (.iload_n 2, 1) := by decide +kernel
theorem dX10_rest_14 : decode cX10_rest 14 = .ok (.aload_n 0, 1) := by decide +kernel
theorem dX10_rest_15 : decode cX10_rest 15 = .ok (.getfield 103, 3) := by decide +kernel
theorem dX10_rest_18 : decode cX10_rest 18 = .ok (.if_icmp .ge 21, 3) := by decide +kernel
theorem dX10_rest_21 : decode cX10_rest 21 = .ok (.aload_n 0, 1) := by decide +kernel
theorem dX10_rest_22 : decode cX10_rest 22 = .ok (.getfield 68, 3) := by decide +kernel
theorem dX10_rest_25 : decode cX10_rest 25 = .ok (.iload_n 2, 1) := by decide +kernel
theorem dX10_rest_26 : decode cX10_rest 26 = .ok (.aload_n 0, 1) := by decide +kernel
theorem dX10_rest_27 : decode cX10_rest 27 = .ok (.getfield 32, 3) := by decide +kernel
theorem dX10_rest_30 : decode cX10_rest 30 = .ok (.iload_n 2, 1) := by decide +kernel
theorem dX10_rest_31 : decode cX10_rest 31 = .ok (.iaload, 1) := by decide +kernel
theorem dX10_rest_32 : decode cX10_rest 32 = .ok (.iastore, 1) := by decide +kernel
theorem dX10_rest_33 : decode cX10_rest 33 = .ok (.iinc 2 1, 3) := by decide +kernel
theorem dX10_rest_36 : decode cX10_rest 36 = .ok (.goto (-23), 3) := by decide +kernel
theorem dX10_rest_39 : decode cX10_rest 39 = .ok (.iconst 1, 1) := by decide +kernel
theorem dX10_rest_40 : decode cX10_rest 40 = .ok (.istore_n 2, 1) := by decide +kernel
theorem dX10_rest_41 : decode cX10_rest 41 = .ok (.iconst 0, 1) := by decide +kernel
theorem dX10_rest_42 : decode cX10_rest 42 = .ok (.istore_n 3, 1) := by decide +kernel
theorem dX10_rest_43 : decode cX10_rest 43 = .ok (.iload_n 3, 1) := by decide +kernel
theorem dX10_rest_44 : decode cX10_rest 44 = .ok (.iconst 4, 1) := by decide +kernel
theorem dX10_rest_45 : decode cX10_rest 45 = .ok (.if_icmp .ge 128, 3) := by decide +kernel
theorem dX10_rest_48 : decode cX10_rest 48 = .ok (.iload_n 2, 1) := by decide +kernel
theorem dX10_rest_49 : decode cX10_rest 49 = .ok (.ifCond .eq 124, 3) := by decide +kernel
theorem dX10_rest_52 : decode cX10_rest 52 = .ok (.iconst 0, 1) := by decide +kernel
theorem dX10_rest_53 : decode cX10_rest 53 = .ok (.istore_n 2, 1) := by decide +kernel
theorem dX10_rest_54 : decode cX10_rest 54 = .ok (.iconst 0, 1) := by decide +kernel
theorem dX10_rest_55 : decode cX10_rest 55 = .ok (.istore 4, 2) := by decide +kernel
theorem dX10_rest_57 : decode cX10_rest 57 = .ok (.iload 4, 2) := by decide +kernel
theorem dX10_rest_59 : decode cX10_rest 59 = .ok (.aload_n 0, 1) := by decide +kernel
theorem dX10_rest_60 : decode cX10_rest 60 = .ok (.getfield 103, 3) := by decide +kernel
theorem dX10_rest_63 : decode cX10_rest 63 = .ok (.if_icmp .ge 104, 3) := by decide +kernel
theorem dX10_rest_66 : decode cX10_rest 66 = .ok (.aload_n 0, 1) := by decide +kernel
theorem dX10_rest_67 : decode cX10_rest 67 = .ok (.getfield 32, 3) := by decide +kernel
theorem dX10_rest_70 : decode cX10_rest 70 = .ok (.iload 4, 2) := by decide +kernel
theorem dX10_rest_72 : decode cX10_rest 72 = .ok (.iaload, 1) := by decide +kernel
theorem dX10_rest_73 : decode cX10_rest 73 = .ok (.istore 5, 2) := by decide +kernel
theorem dX10_rest_75 : decode cX10_rest 75 = .ok (.aload_n 0, 1) := by decide +kernel
theorem dX10_rest_76 : decode cX10_rest 76 = .ok (.iload 4, 2) := by decide +kernel
theorem dX10_rest_78 : decode cX10_rest 78 = .ok (.invokevirtual 323, 3) := by decide +kernel
theorem dX10_rest_81 : decode cX10_rest 81 = .ok (.istore 6, 2) := by decide +kernel
theorem dX10_rest_83 : decode cX10_rest 83 = .ok (.iload 5, 2) := by decide +kernel
theorem dX10_rest_85 : decode cX10_rest 85 = .ok (.istore 7, 2) := by decide +kernel
theorem dX10_rest_87 : decode cX10_rest 87 = .ok (.iconst 0, 1) := by decide +kernel
theorem dX10_rest_88 : decode cX10_rest 88 = .ok (.istore 8, 2) := by decide +kernel
theorem dX10_rest_90 : decode cX10_rest 90 = .ok (.iload 8, 2) := by decide +kernel
theorem dX10_rest_92 : decode cX10_rest 92 = .ok (.bipush 20, 2) := by decide +kernel
theorem dX10_rest_94 : decode cX10_rest 94 = .ok (.if_icmp .gt 41, 3) := by decide +kernel
theorem dX10_rest_97 : decode cX10_rest 97 = .ok (.aload_n 0, 1) := by decide +kernel
theorem dX10_rest_98 : decode cX10_rest 98 = .ok (.getfield 32, 3) := by decide +kernel
theorem dX10_rest_101 : decode cX10_rest 101 = .ok (.iload 4, 2) := by decide +kernel
theorem dX10_rest_103 : decode cX10_rest 103 = .ok (.iload 8, 2) := by decide +kernel
theorem dX10_rest_105 : decode cX10_rest 105 = .ok (.iastore, 1) := by decide +kernel
theorem dX10_rest_106 : decode cX10_rest 106 = .ok (.aload_n 0, 1) := by decide +kernel
theorem dX10_rest_107 : decode cX10_rest 107 = .ok (.iload 4, 2) := by decide +kernel
theorem dX10_rest_109 : decode cX10_rest 109 = .ok (.invokevirtual 323, 3) := by decide +kernel
theorem dX10_rest_112 : decode cX10_rest 112 = .ok (.istore 9, 2) := by decide +kernel
theorem dX10_rest_114 : decode cX10_rest 114 = .ok (.iload 9, 2) := by decide +kernel
theorem dX10_rest_116 : decode cX10_rest 116 = .ok (.iload 6, 2) := by decide +kernel
theorem dX10_rest_118 : decode cX10_rest 118 = .ok (.if_icmp .le 11, 3) := by decide +kernel
theorem dX10_rest_121 : decode cX10_rest 121 = .ok (.iload 8, 2) := by decide +kernel
theorem dX10_rest_123 : decode cX10_rest 123 = .ok (.istore 7, 2) := by decide +kernel
theorem dX10_rest_125 : decode cX10_rest 125 = .ok (.iload 9, 2) := by decide +kernel
theorem dX10_rest_127 : decode cX10_rest 127 = .ok (.istore 6, 2) := by decide +kernel
theorem dX10_rest_129 : decode cX10_rest 129 = .ok (.iinc 8 1, 3) := by decide +kernel
theorem dX10_rest_132 : decode cX10_rest 132 = .ok (.goto (-42), 3) := by decide +kernel
theorem dX10_rest_135 : decode cX10_rest 135 = .ok (.aload_n 0, 1) := by decide +kernel
theorem dX10_rest_136 : decode cX10_rest 136 = .ok (.getfield 32, 3) := by decide +kernel
theorem dX10_rest_139 : decode cX10_rest 139 = .ok (.iload 4, 2) := by decide +kernel
theorem dX10_rest_141 : decode cX10_rest 141 = .ok (.iload 7, 2) := by decide +kernel
theorem dX10_rest_143 : decode cX10_rest 143 = .ok (.iastore, 1) := by decide +kernel
theorem dX10_rest_144 : decode cX10_rest 144 = .ok (.iload_n 2, 1) := by decide +kernel
theorem dX10_rest_145 : decode cX10_rest 145 = .ok (.ifCond .ne 10, 3) := by decide +kernel
theorem dX10_rest_148 : decode cX10_rest 148 = .ok (.iload 7, 2) := by decide +kernel
theorem dX10_rest_150 : decode cX10_rest 150 = .ok (.iload 5, 2) := by decide +kernel
theorem dX10_rest_152 : decode cX10_rest 152 = .ok (.if_icmp .eq 7, 3) := by decide +kernel
theorem dX10_rest_155 : decode cX10_rest 155 = .ok (.iconst 1, 1) := by decide +kernel
theorem dX10_rest_156 : decode cX10_rest 156 = .ok (.goto 4, 3) := by decide +kernel
theorem dX10_rest_159 : decode cX10_rest 159 = .ok (.iconst 0, 1) := by decide +kernel
theorem dX10_rest_160 : decode cX10_rest 160 = .ok (.istore_n 2, 1) := by decide +kernel
theorem dX10_rest_161 : decode cX10_rest 161 = .ok (.iinc 4 1, 3) := by decide +kernel
theorem dX10_rest_164 : decode cX10_rest 164 = .ok (.goto (-107), 3) := by decide +kernel
theorem dX10_rest_167 : decode cX10_rest 167 = .ok (.iinc 3 1, 3) := by decide +kernel
theorem dX10_rest_170 : decode cX10_rest 170 = .ok (.goto (-127), 3) := by decide +kernel
theorem dX10_rest_173 : decode cX10_rest 173 = .ok (.aload_n 0, 1) := by decide +kernel
theorem dX10_rest_174 : decode cX10_rest 174 = .ok (.getfield 32, 3) := by decide +kernel
theorem dX10_rest_177 : decode cX10_rest 177 = .ok (.iload_n 1, 1) := by decide +kernel
theorem dX10_rest_178 : decode cX10_rest 178 = .ok (.iaload, 1) := by decide +kernel
theorem dX10_rest_179 : decode cX10_rest 179 = .ok (.istore_n 3, 1) := by decide +kernel
theorem dX10_rest_180 : decode cX10_rest 180 = .ok (.iconst 0, 1) := by decide +kernel
theorem dX10_rest_181 : decode cX10_rest 181 = .ok (.istore 4, 2) := by decide +kernel
theorem dX10_rest_183 : decode cX10_rest 183 = .ok (.iload 4, 2) := by decide +kernel
theorem dX10_rest_185 : decode cX10_rest 185 = .ok (.aload_n 0, 1) := by decide +kernel
theorem dX10_rest_186 : decode cX10_rest 186 = .ok (.getfield 103, 3) := by decide +kernel
theorem dX10_rest_189 : decode cX10_rest 189 = .ok (.if_icmp .ge 23, 3) := by decide +kernel
theorem dX10_rest_192 : decode cX10_rest 192 = .ok (.aload_n 0, 1) := by decide +kernel
theorem dX10_rest_193 : decode cX10_rest 193 = .ok (.getfield 32, 3) := by decide +kernel
theorem dX10_rest_196 : decode cX10_rest 196 = .ok (.iload 4, 2) := by decide +kernel
theorem dX10_rest_198 : decode cX10_rest 198 = .ok (.aload_n 0, 1) := by decide +kernel
theorem dX10_rest_199 : decode cX10_rest 199 = .ok (.getfield 68, 3) := by decide +kernel
theorem dX10_rest_202 : decode cX10_rest 202 = .ok (.iload 4, 2) := by decide +kernel
theorem dX10_rest_204 : decode cX10_rest 204 = .ok (.iaload, 1) := by decide +kernel
theorem dX10_rest_205 : decode cX10_rest 205 = .ok (.iastore, 1) := by decide +kernel
theorem dX10_rest_206 : decode cX10_rest 206 = .ok (.iinc 4 1, 3) := by decide +kernel
theorem dX10_rest_209 : decode cX10_rest 209 = .ok (.goto (-26), 3) := by decide +kernel
theorem dX10_rest_212 : decode cX10_rest 212 = .ok (.iload_n 3, 1) := by decide +kernel
theorem dX10_rest_213 : decode cX10_rest 213 = .ok (.ireturn, 1) := by decide +kernel
theorem dX10_lies_0 : decode cX10_lies 0 = .ok (.iload_n 1, 1) := by decide +kernel
theorem dX10_lies_1 : decode cX10_lies 1 = .ok (.invokestatic 326, 3) := by decide +kernel
theorem dX10_lies_4 : decode cX10_lies 4 = .ok (.ifCond .ne 6, 3) := by decide +kernel
theorem dX10_lies_7 : decode cX10_lies 7 = .ok (.bipush (-2), 2) := by decide +kernel
theorem dX10_lies_9 : decode cX10_lies 9 = .ok (.ireturn, 1) := by decide +kernel
theorem dX10_lies_10 : decode cX10_lies 10 = .ok (.aload_n 0, 1) := by decide +kernel
theorem dX10_lies_11 : decode cX10_lies 11 = .ok (.getfield 83, 3) := by decide +kernel
theorem dX10_lies_14 : decode cX10_lies 14 = .ok (.iload_n 1, 1) := by decide +kernel
theorem dX10_lies_15 : decode cX10_lies 15 = .ok (.baload, 1) := by decide +kernel
theorem dX10_lies_16 : decode cX10_lies 16 = .ok (.ifCond .ne 6, 3) := by decide +kernel
theorem dX10_lies_19 : decode cX10_lies 19 = .ok (.bipush (-11), 2) := by decide +kernel
theorem dX10_lies_21 : decode cX10_lies 21 = .ok (.ireturn, 1) := by decide +kernel
theorem dX10_lies_22 : decode cX10_lies 22 = .ok (.aload_n 0, 1) := by decide +kernel
theorem dX10_lies_23 : decode cX10_lies 23 = .ok (.getfield 90, 3) := by decide +kernel
theorem dX10_lies_26 : decode cX10_lies 26 = .ok (.iload_n 1, 1) := by decide +kernel
theorem dX10_lies_27 : decode cX10_lies 27 = .ok (.iaload, 1) := by decide +kernel
theorem dX10_lies_28 : decode cX10_lies 28 = .ok (.aload_n 0, 1) := by decide +kernel
theorem dX10_lies_29 : decode cX10_lies 29 = .ok (.getfield 103, 3) := by decide +kernel
theorem dX10_lies_32 : decode cX10_lies 32 = .ok (.if_icmp .eq 6, 3) := by decide +kernel
theorem dX10_lies_35 : decode cX10_lies 35 = .ok (.bipush (-2), 2) := by decide +kernel
theorem dX10_lies_37 : decode cX10_lies 37 = .ok (.ireturn, 1) := by decide +kernel
theorem dX10_lies_38 : decode cX10_lies 38 = .ok (.iconst 0, 1) := by decide +kernel
theorem dX10_lies_39 : decode cX10_lies 39 = .ok (.istore_n 2, 1) := by decide +kernel
theorem dX10_lies_40 : decode cX10_lies 40 = .ok (.iconst 0, 1) := by decide +kernel
theorem dX10_lies_41 : decode cX10_lies 41 = .ok (.istore_n 3, 1) := by decide +kernel
theorem dX10_lies_42 : decode cX10_lies 42 = .ok (.iload_n 3, 1) := by decide +kernel
theorem dX10_lies_43 : decode cX10_lies 43 = .ok (.aload_n 0, 1) := by decide +kernel
theorem dX10_lies_44 : decode cX10_lies 44 = .ok (.getfield 103, 3) := by decide +kernel
theorem dX10_lies_47 : decode cX10_lies 47 = .ok (.if_icmp .ge 39, 3) := by decide +kernel
theorem dX10_lies_50 : decode cX10_lies 50 = .ok (.iload_n 2, 1) := by decide +kernel
theorem dX10_lies_51 : decode cX10_lies 51 = .ok (.aload_n 0, 1) := by decide +kernel
theorem dX10_lies_52 : decode cX10_lies 52 = .ok (.getfield 93, 3) := by decide +kernel
theorem dX10_lies_55 : decode cX10_lies 55 = .ok (.bipush 40, 2) := by decide +kernel
theorem dX10_lies_57 : decode cX10_lies 57 = .ok (.iload_n 1, 1) := by decide +kernel
theorem dX10_lies_58 : decode cX10_lies 58 = .ok (.imul, 1) := by decide +kernel
theorem dX10_lies_59 : decode cX10_lies 59 = .ok (.iload_n 3, 1) := by decide +kernel
theorem dX10_lies_60 : decode cX10_lies 60 = .ok (.iadd, 1) := by decide +kernel
theorem dX10_lies_61 : decode cX10_lies 61 = .ok (.iaload, 1) := by decide +kernel
theorem dX10_lies_62 : decode cX10_lies 62 = .ok (.aload_n 0, 1) := by decide +kernel
theorem dX10_lies_63 : decode cX10_lies 63 = .ok (.getfield 29, 3) := by decide +kernel
theorem dX10_lies_66 : decode cX10_lies 66 = .ok (.iload_n 3, 1) := by decide +kernel
theorem dX10_lies_67 : decode cX10_lies 67 = .ok (.iaload, 1) := by decide +kernel
theorem dX10_lies_68 : decode cX10_lies 68 = .ok (.if_icmp .ne 7, 3) := by decide +kernel
theorem dX10_lies_71 : decode cX10_lies 71 = .ok (.iconst 0, 1) := by decide +kernel
theorem dX10_lies_72 : decode cX10_lies 72 = .ok (.goto 4, 3) := by decide +kernel
theorem dX10_lies_75 : decode cX10_lies 75 = .ok (.iconst 1, 1) := by decide +kernel
theorem dX10_lies_76 : decode cX10_lies 76 = .ok (.iload_n 3, 1) := by decide +kernel
theorem dX10_lies_77 : decode cX10_lies 77 = .ok (.ishl, 1) := by decide +kernel
theorem dX10_lies_78 : decode cX10_lies 78 = .ok (.ior, 1) := by decide +kernel
theorem dX10_lies_79 : decode cX10_lies 79 = .ok (.istore_n 2, 1) := by decide +kernel
theorem dX10_lies_80 : decode cX10_lies 80 = .ok (.iinc 3 1, 3) := by decide +kernel
theorem dX10_lies_83 : decode cX10_lies 83 = .ok (.goto (-41), 3) := by decide +kernel
theorem dX10_lies_86 : decode cX10_lies 86 = .ok (.iload_n 2, 1) := by decide +kernel
theorem dX10_lies_87 : decode cX10_lies 87 = .ok (.ireturn, 1) := by decide +kernel
theorem dX10_judge_0 : decode cX10_judge 0 = .ok (.iload_n 1, 1) := by decide +kernel
theorem dX10_judge_1 : decode cX10_judge 1 = .ok (.invokestatic 326, 3) := by decide +kernel
theorem dX10_judge_4 : decode cX10_judge 4 = .ok (.ifCond .eq 13, 3) := by decide +kernel
theorem dX10_judge_7 : decode cX10_judge 7 = .ok (.iload_n 2, 1) := by decide +kernel
theorem dX10_judge_8 : decode cX10_judge 8 = .ok (.i2l, 1) := by decide +kernel
theorem dX10_judge_9 : decode cX10_judge 9 = .ok (.lconst 0, 1) := by decide +kernel
theorem dX10_judge_10 : decode cX10_judge 10 = .ok (.lconst 1, 1) := by decide +kernel
theorem dX10_judge_11 : decode cX10_judge 11 = .ok (.invokestatic 106, 3) := by decide +kernel
theorem dX10_judge_14 : decode cX10_judge 14 = .ok (.ifCond .ne 6, 3) := by decide +kernel
theorem dX10_judge_17 : decode cX10_judge 17 = .ok (.bipush (-2), 2) := by decide +kernel
theorem dX10_judge_19 : decode cX10_judge 19 = .ok (.ireturn, 1) := by decide +kernel
theorem dX10_judge_20 : decode cX10_judge 20 = .ok (.aload_n 0, 1) := by decide +kernel
theorem dX10_judge_21 : decode cX10_judge 21 = .ok (.getfield 83, 3) := by decide +kernel
theorem dX10_judge_24 : decode cX10_judge 24 = .ok (.iload_n 1, 1) := by decide +kernel
theorem dX10_judge_25 : decode cX10_judge 25 = .ok (.baload, 1) := by decide +kernel
theorem dX10_judge_26 : decode cX10_judge 26 = .ok (.ifCond .ne 6, 3) := by decide +kernel
theorem dX10_judge_29 : decode cX10_judge 29 = .ok (.bipush (-11), 2) := by decide +kernel
theorem dX10_judge_31 : decode cX10_judge 31 = .ok (.ireturn, 1) := by decide +kernel
theorem dX10_judge_32 : decode cX10_judge 32 = .ok (.aload_n 0, 1) := by decide +kernel
theorem dX10_judge_33 : decode cX10_judge 33 = .ok (.getfield 90, 3) := by decide +kernel
theorem dX10_judge_36 : decode cX10_judge 36 = .ok (.iload_n 1, 1) := by decide +kernel
theorem dX10_judge_37 : decode cX10_judge 37 = .ok (.iaload, 1) := by decide +kernel
theorem dX10_judge_38 : decode cX10_judge 38 = .ok (.iconst 2, 1) := by decide +kernel
theorem dX10_judge_39 : decode cX10_judge 39 = .ok (.irem, 1) := by decide +kernel
theorem dX10_judge_40 : decode cX10_judge 40 = .ok (.iconst 1, 1) := by decide +kernel
theorem dX10_judge_41 : decode cX10_judge 41 = .ok (.if_icmp .ne 6, 3) := by decide +kernel
theorem dX10_judge_44 : decode cX10_judge 44 = .ok (.bipush (-2), 2) := by decide +kernel
theorem dX10_judge_46 : decode cX10_judge 46 = .ok (.ireturn, 1) := by decide +kernel
theorem dX10_judge_47 : decode cX10_judge 47 = .ok (.aload_n 0, 1) := by decide +kernel
theorem dX10_judge_48 : decode cX10_judge 48 = .ok (.getfield 113, 3) := by decide +kernel
theorem dX10_judge_51 : decode cX10_judge 51 = .ok (.istore_n 3, 1) := by decide +kernel
theorem dX10_judge_52 : decode cX10_judge 52 = .ok (.iconst 0, 1) := by decide +kernel
theorem dX10_judge_53 : decode cX10_judge 53 = .ok (.istore 4, 2) := by decide +kernel
theorem dX10_judge_55 : decode cX10_judge 55 = .ok (.iconst (-1), 1) := by decide +kernel
theorem dX10_judge_56 : decode cX10_judge 56 = .ok (.istore 5, 2) := by decide +kernel
theorem dX10_judge_58 : decode cX10_judge 58 = .ok (.iconst 0, 1) := by decide +kernel
theorem dX10_judge_59 : decode cX10_judge 59 = .ok (.istore 6, 2) := by decide +kernel
theorem dX10_judge_61 : decode cX10_judge 61 = .ok (.iload 6, 2) := by decide +kernel
theorem dX10_judge_63 : decode cX10_judge 63 = .ok (.aload_n 0, 1) := by decide +kernel
theorem dX10_judge_64 : decode cX10_judge 64 = .ok (.getfield 90, 3) := by decide +kernel
theorem dX10_judge_67 : decode cX10_judge 67 = .ok (.iload_n 1, 1) := by decide +kernel
theorem dX10_judge_68 : decode cX10_judge 68 = .ok (.iaload, 1) := by decide +kernel
theorem dX10_judge_69 : decode cX10_judge 69 = .ok (.iconst 2, 1) := by decide +kernel
theorem dX10_judge_70 : decode cX10_judge 70 = .ok (.idiv, 1) := by decide +kernel
theorem dX10_judge_71 : decode cX10_judge 71 = .ok (.if_icmp .ge 122, 3) := by decide +kernel
theorem dX10_judge_74 : decode cX10_judge 74 = .ok (.iload 5, 2) := by decide +kernel
theorem dX10_judge_76 : decode cX10_judge 76 = .ok (.iconst (-1), 1) := by decide +kernel
theorem dX10_judge_77 : decode cX10_judge 77 = .ok (.if_icmp .ne 116, 3) := by decide +kernel
theorem dX10_judge_80 : decode cX10_judge 80 = .ok (.aload_n 0, 1) := by decide +kernel
theorem dX10_judge_81 : decode cX10_judge 81 = .ok (.getfield 93, 3) := by decide +kernel
theorem dX10_judge_84 : decode cX10_judge 84 = .ok (.bipush 40, 2) := by decide +kernel
theorem dX10_judge_86 : decode cX10_judge 86 = .ok (.iload_n 1, 1) := by decide +kernel
theorem dX10_judge_87 : decode cX10_judge 87 = .ok (.imul, 1) := by decide +kernel
theorem dX10_judge_88 : decode cX10_judge 88 = .ok (.iconst 2, 1) := by decide +kernel
theorem dX10_judge_89 : decode cX10_judge 89 = .ok (.iload 6, 2) := by decide +kernel
theorem dX10_judge_91 : decode cX10_judge 91 = .ok (.imul, 1) := by decide +kernel
theorem dX10_judge_92 : decode cX10_judge 92 = .ok (.iadd, 1) := by decide +kernel
theorem dX10_judge_93 : decode cX10_judge 93 = .ok (.iaload, 1) := by decide +kernel
theorem dX10_judge_94 : decode cX10_judge 94 = .ok (.istore 7, 2) := by decide +kernel
theorem dX10_judge_96 : decode cX10_judge 96 = .ok (.aload_n 0, 1) := by decide +kernel
theorem dX10_judge_97 : decode cX10_judge 97 = .ok (.getfield 93, 3) := by decide +kernel
theorem dX10_judge_100 : decode cX10_judge 100 = .ok (.bipush 40, 2) := by decide +kernel
theorem dX10_judge_102 : decode cX10_judge 102 = .ok (.iload_n 1, 1) := by decide +kernel
theorem dX10_judge_103 : decode cX10_judge 103 = .ok (.imul, 1) := by decide +kernel
theorem dX10_judge_104 : decode cX10_judge 104 = .ok (.iconst 2, 1) := by decide +kernel
theorem dX10_judge_105 : decode cX10_judge 105 = .ok (.iload 6, 2) := by decide +kernel
theorem dX10_judge_107 : decode cX10_judge 107 = .ok (.imul, 1) := by decide +kernel
theorem dX10_judge_108 : decode cX10_judge 108 = .ok (.iadd, 1) := by decide +kernel
theorem dX10_judge_109 : decode cX10_judge 109 = .ok (.iconst 1, 1) := by decide +kernel
theorem dX10_judge_110 : decode cX10_judge 110 = .ok (.iadd, 1) := by decide +kernel
theorem dX10_judge_111 : decode cX10_judge 111 = .ok (.iaload, 1) := by decide +kernel
theorem dX10_judge_112 : decode cX10_judge 112 = .ok (.istore 8, 2) := by decide +kernel
theorem dX10_judge_114 : decode cX10_judge 114 = .ok (.aload_n 0, 1) := by decide +kernel
theorem dX10_judge_115 : decode cX10_judge 115 = .ok (.iload 7, 2) := by decide +kernel
theorem dX10_judge_117 : decode cX10_judge 117 = .ok (.invokevirtual 132, 3) := by decide +kernel
theorem dX10_judge_120 : decode cX10_judge 120 = .ok (.ifCond .eq 35, 3) := by decide +kernel
theorem dX10_judge_123 : decode cX10_judge 123 = .ok (.aload_n 0, 1) := by decide +kernel
theorem dX10_judge_124 : decode cX10_judge 124 = .ok (.iload 8, 2) := by decide +kernel
theorem dX10_judge_126 : decode cX10_judge 126 = .ok (.invokevirtual 128, 3) := by decide +kernel
theorem dX10_judge_129 : decode cX10_judge 129 = .ok (.ifCond .eq 26, 3) := by decide +kernel
theorem dX10_judge_132 : decode cX10_judge 132 = .ok (.iload_n 3, 1) := by decide +kernel
theorem dX10_judge_133 : decode cX10_judge 133 = .ok (.iload 8, 2) := by decide +kernel
theorem dX10_judge_135 : decode cX10_judge 135 = .ok (.ishr, 1) := by decide +kernel
theorem dX10_judge_136 : decode cX10_judge 136 = .ok (.iconst 1, 1) := by decide +kernel
theorem dX10_judge_137 : decode cX10_judge 137 = .ok (.iand, 1) := by decide +kernel
theorem dX10_judge_138 : decode cX10_judge 138 = .ok (.ifCond .ne 17, 3) := by decide +kernel
theorem dX10_judge_141 : decode cX10_judge 141 = .ok (.aload_n 0, 1) := by decide +kernel
theorem dX10_judge_142 : decode cX10_judge 142 = .ok (.iload 7, 2) := by decide +kernel
theorem dX10_judge_144 : decode cX10_judge 144 = .ok (.iconst 1, 1) := by decide +kernel
theorem dX10_judge_145 : decode cX10_judge 145 = .ok (.iload 8, 2) := by decide +kernel
theorem dX10_judge_147 : decode cX10_judge 147 = .ok (.ishl, 1) := by decide +kernel
theorem dX10_judge_148 : decode cX10_judge 148 = .ok (.iconst 0, 1) := by decide +kernel
theorem dX10_judge_149 : decode cX10_judge 149 = .ok (.invokevirtual 285, 3) := by decide +kernel
theorem dX10_judge_152 : decode cX10_judge 152 = .ok (.goto 5, 3) := by decide +kernel
theorem dX10_judge_155 : decode cX10_judge 155 = .ok (.bipush (-5), 2) := by decide +kernel
theorem dX10_judge_157 : decode cX10_judge 157 = .ok (.istore 9, 2) := by decide +kernel
theorem dX10_judge_159 : decode cX10_judge 159 = .ok (.iload 9, 2) := by decide +kernel
theorem dX10_judge_161 : decode cX10_judge 161 = .ok (.bipush (-5), 2) := by decide +kernel
theorem dX10_judge_163 : decode cX10_judge 163 = .ok (.if_icmp .ne 10, 3) := by decide +kernel
theorem dX10_judge_166 : decode cX10_judge 166 = .ok (.iload 6, 2) := by decide +kernel
theorem dX10_judge_168 : decode cX10_judge 168 = .ok (.istore 5, 2) := by decide +kernel
theorem dX10_judge_170 : decode cX10_judge 170 = .ok (.goto 17, 3) := by decide +kernel
theorem dX10_judge_173 : decode cX10_judge 173 = .ok (.iload_n 3, 1) := by decide +kernel
theorem dX10_judge_174 : decode cX10_judge 174 = .ok (.iconst 1, 1) := by decide +kernel
theorem dX10_judge_175 : decode cX10_judge 175 = .ok (.iload 8, 2) := by decide +kernel
theorem dX10_judge_177 : decode cX10_judge 177 = .ok (.ishl, 1) := by decide +kernel
theorem dX10_judge_178 : decode cX10_judge 178 = .ok (.ior, 1) := by decide +kernel
theorem dX10_judge_179 : decode cX10_judge 179 = .ok (.istore_n 3, 1) := by decide +kernel
theorem dX10_judge_180 : decode cX10_judge 180 = .ok (.iload 4, 2) := by decide +kernel
theorem dX10_judge_182 : decode cX10_judge 182 = .ok (.iload 9, 2) := by decide +kernel
theorem dX10_judge_184 : decode cX10_judge 184 = .ok (.iadd, 1) := by decide +kernel
theorem dX10_judge_185 : decode cX10_judge 185 = .ok (.istore 4, 2) := by decide +kernel
theorem dX10_judge_187 : decode cX10_judge 187 = .ok (.iinc 6 1, 3) := by decide +kernel
theorem dX10_judge_190 : decode cX10_judge 190 = .ok (.goto (-129), 3) := by decide +kernel
theorem dX10_judge_193 : decode cX10_judge 193 = .ok (.iload_n 2, 1) := by decide +kernel
theorem dX10_judge_194 : decode cX10_judge 194 = .ok (.ifCond .ne 8, 3) := by decide +kernel
theorem dX10_judge_197 : decode cX10_judge 197 = .ok (.iload 5, 2) := by decide +kernel
theorem dX10_judge_199 : decode cX10_judge 199 = .ok (.goto 5, 3) := by decide +kernel
theorem dX10_judge_202 : decode cX10_judge 202 = .ok (.iload 4, 2) := by decide +kernel
theorem dX10_judge_204 : decode cX10_judge 204 = .ok (.ireturn, 1) := by decide +kernel
theorem dX10_drawn_0 : decode cX10_drawn 0 = .ok (.aload_n 0, 1) := by decide +kernel
theorem dX10_drawn_1 : decode cX10_drawn 1 = .ok (.getfield 103, 3) := by decide +kernel
theorem dX10_drawn_4 : decode cX10_drawn 4 = .ok (.ifCond .ne 5, 3) := by decide +kernel
theorem dX10_drawn_7 : decode cX10_drawn 7 = .ok (.iconst (-1), 1) := by decide +kernel
theorem dX10_drawn_8 : decode cX10_drawn 8 = .ok (.ireturn, 1) := by decide +kernel
theorem dX10_drawn_9 : decode cX10_drawn 9 = .ok (.iload_n 1, 1) := by decide +kernel
theorem dX10_drawn_10 : decode cX10_drawn 10 = .ok (.istore_n 2, 1) := by decide +kernel
theorem dX10_drawn_11 : decode cX10_drawn 11 = .ok (.iconst 0, 1) := by decide +kernel
theorem dX10_drawn_12 : decode cX10_drawn 12 = .ok (.istore_n 3, 1) := by decide +kernel
theorem dX10_drawn_13 : decode cX10_drawn 13 = .ok (.iconst 0, 1) := by decide +kernel
theorem dX10_drawn_14 : decode cX10_drawn 14 = .ok (.istore 4, 2) := by decide +kernel
theorem dX10_drawn_16 : decode cX10_drawn 16 = .ok (.iload 4, 2) := by decide +kernel
theorem dX10_drawn_18 : decode cX10_drawn 18 = .ok (.aload_n 0, 1) := by decide +kernel
theorem dX10_drawn_19 : decode cX10_drawn 19 = .ok (.getfield 110, 3) := by decide +kernel
theorem dX10_drawn_22 : decode cX10_drawn 22 = .ok (.if_icmp .ge 67, 3) := by decide +kernel
theorem dX10_drawn_25 : decode cX10_drawn 25 = .ok (.aload_n 0, 1) := by decide +kernel
theorem dX10_drawn_26 : decode cX10_drawn 26 = .ok (.getfield 113, 3) := by decide +kernel
theorem dX10_drawn_29 : decode cX10_drawn 29 = .ok (.iload 4, 2) := by decide +kernel
theorem dX10_drawn_31 : decode cX10_drawn 31 = .ok (.ishr, 1) := by decide +kernel
theorem dX10_drawn_32 : decode cX10_drawn 32 = .ok (.iconst 1, 1) := by decide +kernel
theorem dX10_drawn_33 : decode cX10_drawn 33 = .ok (.iand, 1) := by decide +kernel
theorem dX10_drawn_34 : decode cX10_drawn 34 = .ok (.ifCond .ne 49, 3) := by decide +kernel
theorem dX10_drawn_37 : decode cX10_drawn 37 = .ok (.iload_n 2, 1) := by decide +kernel
theorem dX10_drawn_38 : decode cX10_drawn 38 = .ok (.ldc_w 329, 3) := by decide +kernel
theorem dX10_drawn_41 : decode cX10_drawn 41 = .ok (.imul, 1) := by decide +kernel
theorem dX10_drawn_42 : decode cX10_drawn 42 = .ok (.sipush 12345, 3) := by decide +kernel
theorem dX10_drawn_45 : decode cX10_drawn 45 = .ok (.iadd, 1) := by decide +kernel
theorem dX10_drawn_46 : decode cX10_drawn 46 = .ok (.istore_n 2, 1) := by decide +kernel
theorem dX10_drawn_47 : decode cX10_drawn 47 = .ok (.aload_n 0, 1) := by decide +kernel
theorem dX10_drawn_48 : decode cX10_drawn 48 = .ok (.iload_n 2, 1) := by decide +kernel
theorem dX10_drawn_49 : decode cX10_drawn 49 = .ok (.bipush 10, 2) := by decide +kernel
theorem dX10_drawn_51 : decode cX10_drawn 51 = .ok (.iushr, 1) := by decide +kernel
theorem dX10_drawn_52 : decode cX10_drawn 52 = .ok (.aload_n 0, 1) := by decide +kernel
theorem dX10_drawn_53 : decode cX10_drawn 53 = .ok (.getfield 103, 3) := by decide +kernel
theorem dX10_drawn_56 : decode cX10_drawn 56 = .ok (.irem, 1) := by decide +kernel
theorem dX10_drawn_57 : decode cX10_drawn 57 = .ok (.iconst 1, 1) := by decide +kernel
theorem dX10_drawn_58 : decode cX10_drawn 58 = .ok (.iload 4, 2) := by decide +kernel
theorem dX10_drawn_60 : decode cX10_drawn 60 = .ok (.ishl, 1) := by decide +kernel
theorem dX10_drawn_61 : decode cX10_drawn 61 = .ok (.iconst 0, 1) := by decide +kernel
theorem dX10_drawn_62 : decode cX10_drawn 62 = .ok (.invokevirtual 285, 3) := by decide +kernel
theorem dX10_drawn_65 : decode cX10_drawn 65 = .ok (.istore 5, 2) := by decide +kernel
theorem dX10_drawn_67 : decode cX10_drawn 67 = .ok (.iload_n 3, 1) := by decide +kernel
theorem dX10_drawn_68 : decode cX10_drawn 68 = .ok (.iload 5, 2) := by decide +kernel
theorem dX10_drawn_70 : decode cX10_drawn 70 = .ok (.bipush (-5), 2) := by decide +kernel
theorem dX10_drawn_72 : decode cX10_drawn 72 = .ok (.if_icmp .ne 7, 3) := by decide +kernel
theorem dX10_drawn_75 : decode cX10_drawn 75 = .ok (.iconst 0, 1) := by decide +kernel
theorem dX10_drawn_76 : decode cX10_drawn 76 = .ok (.goto 5, 3) := by decide +kernel
theorem dX10_drawn_79 : decode cX10_drawn 79 = .ok (.iload 5, 2) := by decide +kernel
theorem dX10_drawn_81 : decode cX10_drawn 81 = .ok (.iadd, 1) := by decide +kernel
theorem dX10_drawn_82 : decode cX10_drawn 82 = .ok (.istore_n 3, 1) := by decide +kernel
theorem dX10_drawn_83 : decode cX10_drawn 83 = .ok (.iinc 4 1, 3) := by decide +kernel
theorem dX10_drawn_86 : decode cX10_drawn 86 = .ok (.goto (-70), 3) := by decide +kernel
theorem dX10_drawn_89 : decode cX10_drawn 89 = .ok (.iload_n 3, 1) := by decide +kernel
theorem dX10_drawn_90 : decode cX10_drawn 90 = .ok (.ireturn, 1) := by decide +kernel
theorem dX10_mean_0 : decode cX10_mean 0 = .ok (.iload_n 1, 1) := by decide +kernel
theorem dX10_mean_1 : decode cX10_mean 1 = .ok (.i2l, 1) := by decide +kernel
theorem dX10_mean_2 : decode cX10_mean 2 = .ok (.lconst 0, 1) := by decide +kernel
theorem dX10_mean_3 : decode cX10_mean 3 = .ok (.lconst 1, 1) := by decide +kernel
theorem dX10_mean_4 : decode cX10_mean 4 = .ok (.invokestatic 106, 3) := by decide +kernel
theorem dX10_mean_7 : decode cX10_mean 7 = .ok (.ifCond .eq 10, 3) := by decide +kernel
theorem dX10_mean_10 : decode cX10_mean 10 = .ok (.aload_n 0, 1) := by decide +kernel
theorem dX10_mean_11 : decode cX10_mean 11 = .ok (.getfield 103, 3) := by decide +kernel
theorem dX10_mean_14 : decode cX10_mean 14 = .ok (.ifCond .ne 7, 3) := by decide +kernel
theorem dX10_mean_17 : decode cX10_mean 17 = .ok (.ldc2_w 321, 3) := by decide +kernel
theorem dX10_mean_20 : decode cX10_mean 20 = .ok (.lreturn, 1) := by decide +kernel
theorem dX10_mean_21 : decode cX10_mean 21 = .ok (.lconst 0, 1) := by decide +kernel
theorem dX10_mean_22 : decode cX10_mean 22 = .ok (.lstore_n 2, 1) := by decide +kernel
theorem dX10_mean_23 : decode cX10_mean 23 = .ok (.iconst 0, 1) := by decide +kernel
theorem dX10_mean_24 : decode cX10_mean 24 = .ok (.istore 4, 2) := by decide +kernel
theorem dX10_mean_26 : decode cX10_mean 26 = .ok (.iload 4, 2) := by decide +kernel
theorem dX10_mean_28 : decode cX10_mean 28 = .ok (.aload_n 0, 1) := by decide +kernel
theorem dX10_mean_29 : decode cX10_mean 29 = .ok (.getfield 103, 3) := by decide +kernel
theorem dX10_mean_32 : decode cX10_mean 32 = .ok (.if_icmp .ge 20, 3) := by decide +kernel
theorem dX10_mean_35 : decode cX10_mean 35 = .ok (.lload_n 2, 1) := by decide +kernel
theorem dX10_mean_36 : decode cX10_mean 36 = .ok (.aload_n 0, 1) := by decide +kernel
theorem dX10_mean_37 : decode cX10_mean 37 = .ok (.getfield 29, 3) := by decide +kernel
theorem dX10_mean_40 : decode cX10_mean 40 = .ok (.iload 4, 2) := by decide +kernel
theorem dX10_mean_42 : decode cX10_mean 42 = .ok (.iaload, 1) := by decide +kernel
theorem dX10_mean_43 : decode cX10_mean 43 = .ok (.i2l, 1) := by decide +kernel
theorem dX10_mean_44 : decode cX10_mean 44 = .ok (.ladd, 1) := by decide +kernel
theorem dX10_mean_45 : decode cX10_mean 45 = .ok (.lstore_n 2, 1) := by decide +kernel
theorem dX10_mean_46 : decode cX10_mean 46 = .ok (.iinc 4 1, 3) := by decide +kernel
theorem dX10_mean_49 : decode cX10_mean 49 = .ok (.goto (-23), 3) := by decide +kernel
theorem dX10_mean_52 : decode cX10_mean 52 = .ok (.lload_n 2, 1) := by decide +kernel
theorem dX10_mean_53 : decode cX10_mean 53 = .ok (.lstore 4, 2) := by decide +kernel
theorem dX10_mean_55 : decode cX10_mean 55 = .ok (.aload_n 0, 1) := by decide +kernel
theorem dX10_mean_56 : decode cX10_mean 56 = .ok (.getfield 103, 3) := by decide +kernel
theorem dX10_mean_59 : decode cX10_mean 59 = .ok (.i2l, 1) := by decide +kernel
theorem dX10_mean_60 : decode cX10_mean 60 = .ok (.lstore 6, 2) := by decide +kernel
theorem dX10_mean_62 : decode cX10_mean 62 = .ok (.lload 6, 2) := by decide +kernel
theorem dX10_mean_64 : decode cX10_mean 64 = .ok (.lconst 0, 1) := by decide +kernel
theorem dX10_mean_65 : decode cX10_mean 65 = .ok (.lcmp, 1) := by decide +kernel
theorem dX10_mean_66 : decode cX10_mean 66 = .ok (.ifCond .eq 21, 3) := by decide +kernel
theorem dX10_mean_69 : decode cX10_mean 69 = .ok (.lload 4, 2) := by decide +kernel
theorem dX10_mean_71 : decode cX10_mean 71 = .ok (.lload 6, 2) := by decide +kernel
theorem dX10_mean_73 : decode cX10_mean 73 = .ok (.lrem, 1) := by decide +kernel
theorem dX10_mean_74 : decode cX10_mean 74 = .ok (.lstore 8, 2) := by decide +kernel
theorem dX10_mean_76 : decode cX10_mean 76 = .ok (.lload 6, 2) := by decide +kernel
theorem dX10_mean_78 : decode cX10_mean 78 = .ok (.lstore 4, 2) := by decide +kernel
theorem dX10_mean_80 : decode cX10_mean 80 = .ok (.lload 8, 2) := by decide +kernel
theorem dX10_mean_82 : decode cX10_mean 82 = .ok (.lstore 6, 2) := by decide +kernel
theorem dX10_mean_84 : decode cX10_mean 84 = .ok (.goto (-22), 3) := by decide +kernel
theorem dX10_mean_87 : decode cX10_mean 87 = .ok (.iload_n 1, 1) := by decide +kernel
theorem dX10_mean_88 : decode cX10_mean 88 = .ok (.ifCond .ne 10, 3) := by decide +kernel
theorem dX10_mean_91 : decode cX10_mean 91 = .ok (.lload_n 2, 1) := by decide +kernel
theorem dX10_mean_92 : decode cX10_mean 92 = .ok (.lload 4, 2) := by decide +kernel
theorem dX10_mean_94 : decode cX10_mean 94 = .ok (.ldiv, 1) := by decide +kernel
theorem dX10_mean_95 : decode cX10_mean 95 = .ok (.goto 11, 3) := by decide +kernel
theorem dX10_mean_98 : decode cX10_mean 98 = .ok (.aload_n 0, 1) := by decide +kernel
theorem dX10_mean_99 : decode cX10_mean 99 = .ok (.getfield 103, 3) := by decide +kernel
theorem dX10_mean_102 : decode cX10_mean 102 = .ok (.i2l, 1) := by decide +kernel
theorem dX10_mean_103 : decode cX10_mean 103 = .ok (.lload 4, 2) := by decide +kernel
theorem dX10_mean_105 : decode cX10_mean 105 = .ok (.ldiv, 1) := by decide +kernel
theorem dX10_mean_106 : decode cX10_mean 106 = .ok (.lreturn, 1) := by decide +kernel
theorem dX10_image_0 : decode cX10_image 0 = .ok (.iconst 0, 1) := by decide +kernel
theorem dX10_image_1 : decode cX10_image 1 = .ok (.istore_n 1, 1) := by decide +kernel
theorem dX10_image_2 : decode cX10_image 2 = .ok (.iload_n 1, 1) := by decide +kernel
theorem dX10_image_3 : decode cX10_image 3 = .ok (.bipush 7, 2) := by decide +kernel
theorem dX10_image_5 : decode cX10_image 5 = .ok (.if_icmp .ge 45, 3) := by decide +kernel
theorem dX10_image_8 : decode cX10_image 8 = .ok (.aload_n 0, 1) := by decide +kernel
theorem dX10_image_9 : decode cX10_image 9 = .ok (.getfield 71, 3) := by decide +kernel
theorem dX10_image_12 : decode cX10_image 12 = .ok (.iload_n 1, 1) := by decide +kernel
theorem dX10_image_13 : decode cX10_image 13 = .ok (.aload_n 0, 1) := by decide +kernel
theorem dX10_image_14 : decode cX10_image 14 = .ok (.getfield 29, 3) := by decide +kernel
theorem dX10_image_17 : decode cX10_image 17 = .ok (.iload_n 1, 1) := by decide +kernel
theorem dX10_image_18 : decode cX10_image 18 = .ok (.iaload, 1) := by decide +kernel
theorem dX10_image_19 : decode cX10_image 19 = .ok (.iastore, 1) := by decide +kernel
theorem dX10_image_20 : decode cX10_image 20 = .ok (.aload_n 0, 1) := by decide +kernel
theorem dX10_image_21 : decode cX10_image 21 = .ok (.getfield 74, 3) := by decide +kernel
theorem dX10_image_24 : decode cX10_image 24 = .ok (.iload_n 1, 1) := by decide +kernel
theorem dX10_image_25 : decode cX10_image 25 = .ok (.aload_n 0, 1) := by decide +kernel
theorem dX10_image_26 : decode cX10_image 26 = .ok (.getfield 32, 3) := by decide +kernel
theorem dX10_image_29 : decode cX10_image 29 = .ok (.iload_n 1, 1) := by decide +kernel
theorem dX10_image_30 : decode cX10_image 30 = .ok (.iaload, 1) := by decide +kernel
theorem dX10_image_31 : decode cX10_image 31 = .ok (.iastore, 1) := by decide +kernel
theorem dX10_image_32 : decode cX10_image 32 = .ok (.aload_n 0, 1) := by decide +kernel
theorem dX10_image_33 : decode cX10_image 33 = .ok (.getfield 77, 3) := by decide +kernel
theorem dX10_image_36 : decode cX10_image 36 = .ok (.iload_n 1, 1) := by decide +kernel
theorem dX10_image_37 : decode cX10_image 37 = .ok (.aload_n 0, 1) := by decide +kernel
theorem dX10_image_38 : decode cX10_image 38 = .ok (.getfield 44, 3) := by decide +kernel
theorem dX10_image_41 : decode cX10_image 41 = .ok (.iload_n 1, 1) := by decide +kernel
theorem dX10_image_42 : decode cX10_image 42 = .ok (.iaload, 1) := by decide +kernel
theorem dX10_image_43 : decode cX10_image 43 = .ok (.iastore, 1) := by decide +kernel
theorem dX10_image_44 : decode cX10_image 44 = .ok (.iinc 1 1, 3) := by decide +kernel
theorem dX10_image_47 : decode cX10_image 47 = .ok (.goto (-45), 3) := by decide +kernel
theorem dX10_image_50 : decode cX10_image 50 = .ok (.aload_n 0, 1) := by decide +kernel
theorem dX10_image_51 : decode cX10_image 51 = .ok (.aload_n 0, 1) := by decide +kernel
theorem dX10_image_52 : decode cX10_image 52 = .ok (.getfield 103, 3) := by decide +kernel
theorem dX10_image_55 : decode cX10_image 55 = .ok (.putfield 80, 3) := by decide +kernel
theorem dX10_image_58 : decode cX10_image 58 = .ok (.aload_n 0, 1) := by decide +kernel
theorem dX10_image_59 : decode cX10_image 59 = .ok (.aload_n 0, 1) := by decide +kernel
theorem dX10_image_60 : decode cX10_image 60 = .ok (.getfield 110, 3) := by decide +kernel
theorem dX10_image_63 : decode cX10_image 63 = .ok (.putfield 330, 3) := by decide +kernel
theorem dX10_image_66 : decode cX10_image 66 = .ok (.aload_n 0, 1) := by decide +kernel
theorem dX10_image_67 : decode cX10_image 67 = .ok (.aload_n 0, 1) := by decide +kernel
theorem dX10_image_68 : decode cX10_image 68 = .ok (.getfield 113, 3) := by decide +kernel
theorem dX10_image_71 : decode cX10_image 71 = .ok (.putfield 333, 3) := by decide +kernel
theorem dX10_image_74 : decode cX10_image 74 = .ok (.aload_n 0, 1) := by decide +kernel
theorem dX10_image_75 : decode cX10_image 75 = .ok (.aload_n 0, 1) := by decide +kernel
theorem dX10_image_76 : decode cX10_image 76 = .ok (.getfield 141, 3) := by decide +kernel
theorem dX10_image_79 : decode cX10_image 79 = .ok (.putfield 336, 3) := by decide +kernel
theorem dX10_image_82 : decode cX10_image 82 = .ok (.aload_n 0, 1) := by decide +kernel
theorem dX10_image_83 : decode cX10_image 83 = .ok (.aload_n 0, 1) := by decide +kernel
theorem dX10_image_84 : decode cX10_image 84 = .ok (.getfield 315, 3) := by decide +kernel
theorem dX10_image_87 : decode cX10_image 87 = .ok (.putfield 339, 3) := by decide +kernel
theorem dX10_image_90 : decode cX10_image 90 = .ok (.aload_n 0, 1) := by decide +kernel
theorem dX10_image_91 : decode cX10_image 91 = .ok (.aload_n 0, 1) := by decide +kernel
theorem dX10_image_92 : decode cX10_image 92 = .ok (.getfield 312, 3) := by decide +kernel
theorem dX10_image_95 : decode cX10_image 95 = .ok (.putfield 342, 3) := by decide +kernel
theorem dX10_image_98 : decode cX10_image 98 = .ok (.aload_n 0, 1) := by decide +kernel
theorem dX10_image_99 : decode cX10_image 99 = .ok (.aload_n 0, 1) := by decide +kernel
theorem dX10_image_100 : decode cX10_image 100 = .ok (.getfield 47, 3) := by decide +kernel
theorem dX10_image_103 : decode cX10_image 103 = .ok (.putfield 345, 3) := by decide +kernel
theorem dX10_image_106 : decode cX10_image 106 = .ok (.aload_n 0, 1) := by decide +kernel
theorem dX10_image_107 : decode cX10_image 107 = .ok (.aload_n 0, 1) := by decide +kernel
theorem dX10_image_108 : decode cX10_image 108 = .ok (.getfield 270, 3) := by decide +kernel
theorem dX10_image_111 : decode cX10_image 111 = .ok (.putfield 348, 3) := by decide +kernel
theorem dX10_image_114 : decode cX10_image 114 = .ok (.aload_n 0, 1) := by decide +kernel
theorem dX10_image_115 : decode cX10_image 115 = .ok (.getfield 141, 3) := by decide +kernel
theorem dX10_image_118 : decode cX10_image 118 = .ok (.ireturn, 1) := by decide +kernel
theorem dX10_back_0 : decode cX10_back 0 = .ok (.aload_n 0, 1) := by decide +kernel
theorem dX10_back_1 : decode cX10_back 1 = .ok (.getfield 80, 3) := by decide +kernel
theorem dX10_back_4 : decode cX10_back 4 = .ok (.iconst (-1), 1) := by decide +kernel
theorem dX10_back_5 : decode cX10_back 5 = .ok (.if_icmp .ne 6, 3) := by decide +kernel
theorem dX10_back_8 : decode cX10_back 8 = .ok (.bipush (-3), 2) := by decide +kernel
theorem dX10_back_10 : decode cX10_back 10 = .ok (.ireturn, 1) := by decide +kernel
theorem dX10_back_11 : decode cX10_back 11 = .ok (.iconst 0, 1) := by decide +kernel
theorem dX10_back_12 : decode cX10_back 12 = .ok (.istore_n 1, 1) := by decide +kernel
theorem dX10_back_13 : decode cX10_back 13 = .ok (.iload_n 1, 1) := by decide +kernel
theorem dX10_back_14 : decode cX10_back 14 = .ok (.aload_n 0, 1) := by decide +kernel
theorem dX10_back_15 : decode cX10_back 15 = .ok (.getfield 80, 3) := by decide +kernel
theorem dX10_back_18 : decode cX10_back 18 = .ok (.if_icmp .ge 33, 3) := by decide +kernel
theorem dX10_back_21 : decode cX10_back 21 = .ok (.aload_n 0, 1) := by decide +kernel
theorem dX10_back_22 : decode cX10_back 22 = .ok (.getfield 29, 3) := by decide +kernel
theorem dX10_back_25 : decode cX10_back 25 = .ok (.iload_n 1, 1) := by decide +kernel
theorem dX10_back_26 : decode cX10_back 26 = .ok (.aload_n 0, 1) := by decide +kernel
theorem dX10_back_27 : decode cX10_back 27 = .ok (.getfield 71, 3) := by decide +kernel
theorem dX10_back_30 : decode cX10_back 30 = .ok (.iload_n 1, 1) := by decide +kernel
theorem dX10_back_31 : decode cX10_back 31 = .ok (.iaload, 1) := by decide +kernel
theorem dX10_back_32 : decode cX10_back 32 = .ok (.iastore, 1) := by decide +kernel
theorem dX10_back_33 : decode cX10_back 33 = .ok (.aload_n 0, 1) := by decide +kernel
theorem dX10_back_34 : decode cX10_back 34 = .ok (.getfield 32, 3) := by decide +kernel
theorem dX10_back_37 : decode cX10_back 37 = .ok (.iload_n 1, 1) := by decide +kernel
theorem dX10_back_38 : decode cX10_back 38 = .ok (.aload_n 0, 1) := by decide +kernel
theorem dX10_back_39 : decode cX10_back 39 = .ok (.getfield 74, 3) := by decide +kernel
theorem dX10_back_42 : decode cX10_back 42 = .ok (.iload_n 1, 1) := by decide +kernel
theorem dX10_back_43 : decode cX10_back 43 = .ok (.iaload, 1) := by decide +kernel
theorem dX10_back_44 : decode cX10_back 44 = .ok (.iastore, 1) := by decide +kernel
theorem dX10_back_45 : decode cX10_back 45 = .ok (.iinc 1 1, 3) := by decide +kernel
theorem dX10_back_48 : decode cX10_back 48 = .ok (.goto (-35), 3) := by decide +kernel
theorem dX10_back_51 : decode cX10_back 51 = .ok (.iconst 0, 1) := by decide +kernel
theorem dX10_back_52 : decode cX10_back 52 = .ok (.istore_n 1, 1) := by decide +kernel
theorem dX10_back_53 : decode cX10_back 53 = .ok (.iload_n 1, 1) := by decide +kernel
theorem dX10_back_54 : decode cX10_back 54 = .ok (.aload_n 0, 1) := by decide +kernel
theorem dX10_back_55 : decode cX10_back 55 = .ok (.getfield 330, 3) := by decide +kernel
theorem dX10_back_58 : decode cX10_back 58 = .ok (.if_icmp .ge 21, 3) := by decide +kernel
theorem dX10_back_61 : decode cX10_back 61 = .ok (.aload_n 0, 1) := by decide +kernel
theorem dX10_back_62 : decode cX10_back 62 = .ok (.getfield 44, 3) := by decide +kernel
theorem dX10_back_65 : decode cX10_back 65 = .ok (.iload_n 1, 1) := by decide +kernel
theorem dX10_back_66 : decode cX10_back 66 = .ok (.aload_n 0, 1) := by decide +kernel
theorem dX10_back_67 : decode cX10_back 67 = .ok (.getfield 77, 3) := by decide +kernel
theorem dX10_back_70 : decode cX10_back 70 = .ok (.iload_n 1, 1) := by decide +kernel
theorem dX10_back_71 : decode cX10_back 71 = .ok (.iaload, 1) := by decide +kernel
theorem dX10_back_72 : decode cX10_back 72 = .ok (.iastore, 1) := by decide +kernel
theorem dX10_back_73 : decode cX10_back 73 = .ok (.iinc 1 1, 3) := by decide +kernel
theorem dX10_back_76 : decode cX10_back 76 = .ok (.goto (-23), 3) := by decide +kernel
theorem dX10_back_79 : decode cX10_back 79 = .ok (.aload_n 0, 1) := by decide +kernel
theorem dX10_back_80 : decode cX10_back 80 = .ok (.aload_n 0, 1) := by decide +kernel
theorem dX10_back_81 : decode cX10_back 81 = .ok (.getfield 113, 3) := by decide +kernel
theorem dX10_back_84 : decode cX10_back 84 = .ok (.aload_n 0, 1) := by decide +kernel
theorem dX10_back_85 : decode cX10_back 85 = .ok (.getfield 330, 3) := by decide +kernel
theorem dX10_back_88 : decode cX10_back 88 = .ok (.ishr, 1) := by decide +kernel
theorem dX10_back_89 : decode cX10_back 89 = .ok (.aload_n 0, 1) := by decide +kernel
theorem dX10_back_90 : decode cX10_back 90 = .ok (.getfield 330, 3) := by decide +kernel
theorem dX10_back_93 : decode cX10_back 93 = .ok (.ishl, 1) := by decide +kernel
theorem dX10_back_94 : decode cX10_back 94 = .ok (.aload_n 0, 1) := by decide +kernel
theorem dX10_back_95 : decode cX10_back 95 = .ok (.getfield 333, 3) := by decide +kernel
theorem dX10_back_98 : decode cX10_back 98 = .ok (.ior, 1) := by decide +kernel
theorem dX10_back_99 : decode cX10_back 99 = .ok (.putfield 113, 3) := by decide +kernel
theorem dX10_back_102 : decode cX10_back 102 = .ok (.aload_n 0, 1) := by decide +kernel
theorem dX10_back_103 : decode cX10_back 103 = .ok (.aload_n 0, 1) := by decide +kernel
theorem dX10_back_104 : decode cX10_back 104 = .ok (.getfield 336, 3) := by decide +kernel
theorem dX10_back_107 : decode cX10_back 107 = .ok (.putfield 141, 3) := by decide +kernel
theorem dX10_back_110 : decode cX10_back 110 = .ok (.aload_n 0, 1) := by decide +kernel
theorem dX10_back_111 : decode cX10_back 111 = .ok (.aload_n 0, 1) := by decide +kernel
theorem dX10_back_112 : decode cX10_back 112 = .ok (.getfield 339, 3) := by decide +kernel
theorem dX10_back_115 : decode cX10_back 115 = .ok (.putfield 315, 3) := by decide +kernel
theorem dX10_back_118 : decode cX10_back 118 = .ok (.aload_n 0, 1) := by decide +kernel
theorem dX10_back_119 : decode cX10_back 119 = .ok (.aload_n 0, 1) := by decide +kernel
theorem dX10_back_120 : decode cX10_back 120 = .ok (.getfield 342, 3) := by decide +kernel
theorem dX10_back_123 : decode cX10_back 123 = .ok (.putfield 312, 3) := by decide +kernel
theorem dX10_back_126 : decode cX10_back 126 = .ok (.aload_n 0, 1) := by decide +kernel
theorem dX10_back_127 : decode cX10_back 127 = .ok (.aload_n 0, 1) := by decide +kernel
theorem dX10_back_128 : decode cX10_back 128 = .ok (.getfield 345, 3) := by decide +kernel
theorem dX10_back_131 : decode cX10_back 131 = .ok (.putfield 47, 3) := by decide +kernel
theorem dX10_back_134 : decode cX10_back 134 = .ok (.aload_n 0, 1) := by decide +kernel
theorem dX10_back_135 : decode cX10_back 135 = .ok (.aload_n 0, 1) := by decide +kernel
theorem dX10_back_136 : decode cX10_back 136 = .ok (.getfield 348, 3) := by decide +kernel
theorem dX10_back_139 : decode cX10_back 139 = .ok (.putfield 270, 3) := by decide +kernel
theorem dX10_back_142 : decode cX10_back 142 = .ok (.aload_n 0, 1) := by decide +kernel
theorem dX10_back_143 : decode cX10_back 143 = .ok (.getfield 141, 3) := by decide +kernel
theorem dX10_back_146 : decode cX10_back 146 = .ok (.ireturn, 1) := by decide +kernel
theorem dX10_count_0 : decode cX10_count 0 = .ok (.iload_n 1, 1) := by decide +kernel
theorem dX10_count_1 : decode cX10_count 1 = .ok (.i2l, 1) := by decide +kernel
theorem dX10_count_2 : decode cX10_count 2 = .ok (.lconst 0, 1) := by decide +kernel
theorem dX10_count_3 : decode cX10_count 3 = .ok (.ldc2_w 122, 3) := by decide +kernel
theorem dX10_count_6 : decode cX10_count 6 = .ok (.invokestatic 106, 3) := by decide +kernel
theorem dX10_count_9 : decode cX10_count 9 = .ok (.ifCond .ne 6, 3) := by decide +kernel
theorem dX10_count_12 : decode cX10_count 12 = .ok (.bipush (-2), 2) := by decide +kernel
theorem dX10_count_14 : decode cX10_count 14 = .ok (.ireturn, 1) := by decide +kernel
theorem dX10_count_15 : decode cX10_count 15 = .ok (.iload_n 1, 1) := by decide +kernel
theorem dX10_count_16 : decode cX10_count 16 = .ok (.iconst 4, 1) := by decide +kernel
theorem dX10_count_17 : decode cX10_count 17 = .ok (.if_icmp .ge 46, 3) := by decide +kernel
theorem dX10_count_20 : decode cX10_count 20 = .ok (.iload_n 1, 1) := by decide +kernel
theorem dX10_count_21 : decode cX10_count 21 = .ok (.ifCond .ne 10, 3) := by decide +kernel
theorem dX10_count_24 : decode cX10_count 24 = .ok (.aload_n 0, 1) := by decide +kernel
theorem dX10_count_25 : decode cX10_count 25 = .ok (.getfield 103, 3) := by decide +kernel
theorem dX10_count_28 : decode cX10_count 28 = .ok (.goto 34, 3) := by decide +kernel
theorem dX10_count_31 : decode cX10_count 31 = .ok (.iload_n 1, 1) := by decide +kernel
theorem dX10_count_32 : decode cX10_count 32 = .ok (.iconst 1, 1) := by decide +kernel
theorem dX10_count_33 : decode cX10_count 33 = .ok (.if_icmp .ne 10, 3) := by decide +kernel
theorem dX10_count_36 : decode cX10_count 36 = .ok (.aload_n 0, 1) := by decide +kernel
theorem dX10_count_37 : decode cX10_count 37 = .ok (.getfield 110, 3) := by decide +kernel
theorem dX10_count_40 : decode cX10_count 40 = .ok (.goto 22, 3) := by decide +kernel
theorem dX10_count_43 : decode cX10_count 43 = .ok (.iload_n 1, 1) := by decide +kernel
theorem dX10_count_44 : decode cX10_count 44 = .ok (.iconst 2, 1) := by decide +kernel
theorem dX10_count_45 : decode cX10_count 45 = .ok (.if_icmp .ne 13, 3) := by decide +kernel
theorem dX10_count_48 : decode cX10_count 48 = .ok (.aload_n 0, 1) := by decide +kernel
theorem dX10_count_49 : decode cX10_count 49 = .ok (.invokevirtual 288, 3) := by decide +kernel
theorem dX10_count_52 : decode cX10_count 52 = .ok (.invokestatic 291, 3) := by decide +kernel
theorem dX10_count_55 : decode cX10_count 55 = .ok (.goto 7, 3) := by decide +kernel
theorem dX10_count_58 : decode cX10_count 58 = .ok (.aload_n 0, 1) := by decide +kernel
theorem dX10_count_59 : decode cX10_count 59 = .ok (.getfield 141, 3) := by decide +kernel
theorem dX10_count_62 : decode cX10_count 62 = .ok (.ireturn, 1) := by decide +kernel
theorem dX10_count_63 : decode cX10_count 63 = .ok (.iload_n 1, 1) := by decide +kernel
theorem dX10_count_64 : decode cX10_count 64 = .ok (.bipush 7, 2) := by decide +kernel
theorem dX10_count_66 : decode cX10_count 66 = .ok (.if_icmp .ge 32, 3) := by decide +kernel
theorem dX10_count_69 : decode cX10_count 69 = .ok (.iload_n 1, 1) := by decide +kernel
theorem dX10_count_70 : decode cX10_count 70 = .ok (.iconst 4, 1) := by decide +kernel
theorem dX10_count_71 : decode cX10_count 71 = .ok (.if_icmp .ne 10, 3) := by decide +kernel
theorem dX10_count_74 : decode cX10_count 74 = .ok (.aload_n 0, 1) := by decide +kernel
theorem dX10_count_75 : decode cX10_count 75 = .ok (.getfield 315, 3) := by decide +kernel
theorem dX10_count_78 : decode cX10_count 78 = .ok (.goto 19, 3) := by decide +kernel
theorem dX10_count_81 : decode cX10_count 81 = .ok (.iload_n 1, 1) := by decide +kernel
theorem dX10_count_82 : decode cX10_count 82 = .ok (.iconst 5, 1) := by decide +kernel
theorem dX10_count_83 : decode cX10_count 83 = .ok (.if_icmp .ne 10, 3) := by decide +kernel
theorem dX10_count_86 : decode cX10_count 86 = .ok (.aload_n 0, 1) := by decide +kernel
theorem dX10_count_87 : decode cX10_count 87 = .ok (.getfield 312, 3) := by decide +kernel
theorem dX10_count_90 : decode cX10_count 90 = .ok (.goto 7, 3) := by decide +kernel
theorem dX10_count_93 : decode cX10_count 93 = .ok (.aload_n 0, 1) := by decide +kernel
theorem dX10_count_94 : decode cX10_count 94 = .ok (.getfield 47, 3) := by decide +kernel
theorem dX10_count_97 : decode cX10_count 97 = .ok (.ireturn, 1) := by decide +kernel
theorem dX10_count_98 : decode cX10_count 98 = .ok (.iload_n 1, 1) := by decide +kernel
theorem dX10_count_99 : decode cX10_count 99 = .ok (.bipush 7, 2) := by decide +kernel
theorem dX10_count_101 : decode cX10_count 101 = .ok (.if_icmp .ne 10, 3) := by decide +kernel
theorem dX10_count_104 : decode cX10_count 104 = .ok (.aload_n 0, 1) := by decide +kernel
theorem dX10_count_105 : decode cX10_count 105 = .ok (.getfield 100, 3) := by decide +kernel
theorem dX10_count_108 : decode cX10_count 108 = .ok (.goto 20, 3) := by decide +kernel
theorem dX10_count_111 : decode cX10_count 111 = .ok (.iload_n 1, 1) := by decide +kernel
theorem dX10_count_112 : decode cX10_count 112 = .ok (.bipush 8, 2) := by decide +kernel
theorem dX10_count_114 : decode cX10_count 114 = .ok (.if_icmp .ne 10, 3) := by decide +kernel
theorem dX10_count_117 : decode cX10_count 117 = .ok (.aload_n 0, 1) := by decide +kernel
theorem dX10_count_118 : decode cX10_count 118 = .ok (.getfield 154, 3) := by decide +kernel
theorem dX10_count_121 : decode cX10_count 121 = .ok (.goto 7, 3) := by decide +kernel
theorem dX10_count_124 : decode cX10_count 124 = .ok (.aload_n 0, 1) := by decide +kernel
theorem dX10_count_125 : decode cX10_count 125 = .ok (.getfield 270, 3) := by decide +kernel
theorem dX10_count_128 : decode cX10_count 128 = .ok (.ireturn, 1) := by decide +kernel
theorem dX10_isSheet_0 : decode cX10_isSheet 0 = .ok (.iload_n 0, 1) := by decide +kernel
theorem dX10_isSheet_1 : decode cX10_isSheet 1 = .ok (.i2l, 1) := by decide +kernel
theorem dX10_isSheet_2 : decode cX10_isSheet 2 = .ok (.lconst 0, 1) := by decide +kernel
theorem dX10_isSheet_3 : decode cX10_isSheet 3 = .ok (.ldc2_w 351, 3) := by decide +kernel
theorem dX10_isSheet_6 : decode cX10_isSheet 6 = .ok (.invokestatic 106, 3) := by decide +kernel
theorem dX10_isSheet_9 : decode cX10_isSheet 9 = .ok (.ireturn, 1) := by decide +kernel
theorem dX10_sheet_0 : decode cX10_sheet 0 = .ok (.iload_n 1, 1) := by decide +kernel
theorem dX10_sheet_1 : decode cX10_sheet 1 = .ok (.invokestatic 326, 3) := by decide +kernel
theorem dX10_sheet_4 : decode cX10_sheet 4 = .ok (.ifCond .eq 27, 3) := by decide +kernel
theorem dX10_sheet_7 : decode cX10_sheet 7 = .ok (.iload_n 2, 1) := by decide +kernel
theorem dX10_sheet_8 : decode cX10_sheet 8 = .ok (.i2l, 1) := by decide +kernel
theorem dX10_sheet_9 : decode cX10_sheet 9 = .ok (.ldc2_w 353, 3) := by decide +kernel
theorem dX10_sheet_12 : decode cX10_sheet 12 = .ok (.ldc2_w 355, 3) := by decide +kernel
theorem dX10_sheet_15 : decode cX10_sheet 15 = .ok (.invokestatic 106, 3) := by decide +kernel
theorem dX10_sheet_18 : decode cX10_sheet 18 = .ok (.ifCond .eq 13, 3) := by decide +kernel
theorem dX10_sheet_21 : decode cX10_sheet 21 = .ok (.iload_n 2, 1) := by decide +kernel
theorem dX10_sheet_22 : decode cX10_sheet 22 = .ok (.ifCond .lt 12, 3) := by decide +kernel
theorem dX10_sheet_25 : decode cX10_sheet 25 = .ok (.iload_n 3, 1) := by decide +kernel
theorem dX10_sheet_26 : decode cX10_sheet 26 = .ok (.bipush 40, 2) := by decide +kernel
theorem dX10_sheet_28 : decode cX10_sheet 28 = .ok (.if_icmp .le 6, 3) := by decide +kernel
theorem dX10_sheet_31 : decode cX10_sheet 31 = .ok (.bipush (-2), 2) := by decide +kernel
theorem dX10_sheet_33 : decode cX10_sheet 33 = .ok (.ireturn, 1) := by decide +kernel
theorem dX10_sheet_34 : decode cX10_sheet 34 = .ok (.iload_n 2, 1) := by decide +kernel
theorem dX10_sheet_35 : decode cX10_sheet 35 = .ok (.ifCond .lt 10, 3) := by decide +kernel
theorem dX10_sheet_38 : decode cX10_sheet 38 = .ok (.iload_n 3, 1) := by decide +kernel
theorem dX10_sheet_39 : decode cX10_sheet 39 = .ok (.ifCond .ge 6, 3) := by decide +kernel
theorem dX10_sheet_42 : decode cX10_sheet 42 = .ok (.bipush (-14), 2) := by decide +kernel
theorem dX10_sheet_44 : decode cX10_sheet 44 = .ok (.ireturn, 1) := by decide +kernel
theorem dX10_sheet_45 : decode cX10_sheet 45 = .ok (.aload_n 0, 1) := by decide +kernel
theorem dX10_sheet_46 : decode cX10_sheet 46 = .ok (.getfield 83, 3) := by decide +kernel
theorem dX10_sheet_49 : decode cX10_sheet 49 = .ok (.iload_n 1, 1) := by decide +kernel
theorem dX10_sheet_50 : decode cX10_sheet 50 = .ok (.iload_n 2, 1) := by decide +kernel
theorem dX10_sheet_51 : decode cX10_sheet 51 = .ok (.ifCond .lt 7, 3) := by decide +kernel
theorem dX10_sheet_54 : decode cX10_sheet 54 = .ok (.iconst 1, 1) := by decide +kernel
theorem dX10_sheet_55 : decode cX10_sheet 55 = .ok (.goto 4, 3) := by decide +kernel
theorem dX10_sheet_58 : decode cX10_sheet 58 = .ok (.iconst 0, 1) := by decide +kernel
theorem dX10_sheet_59 : decode cX10_sheet 59 = .ok (.bastore, 1) := by decide +kernel
theorem dX10_sheet_60 : decode cX10_sheet 60 = .ok (.aload_n 0, 1) := by decide +kernel
theorem dX10_sheet_61 : decode cX10_sheet 61 = .ok (.getfield 87, 3) := by decide +kernel
theorem dX10_sheet_64 : decode cX10_sheet 64 = .ok (.iload_n 1, 1) := by decide +kernel
theorem dX10_sheet_65 : decode cX10_sheet 65 = .ok (.iload_n 2, 1) := by decide +kernel
theorem dX10_sheet_66 : decode cX10_sheet 66 = .ok (.iastore, 1) := by decide +kernel
theorem dX10_sheet_67 : decode cX10_sheet 67 = .ok (.aload_n 0, 1) := by decide +kernel
theorem dX10_sheet_68 : decode cX10_sheet 68 = .ok (.getfield 90, 3) := by decide +kernel
theorem dX10_sheet_71 : decode cX10_sheet 71 = .ok (.iload_n 1, 1) := by decide +kernel
theorem dX10_sheet_72 : decode cX10_sheet 72 = .ok (.iload_n 3, 1) := by decide +kernel
theorem dX10_sheet_73 : decode cX10_sheet 73 = .ok (.iastore, 1) := by decide +kernel
theorem dX10_sheet_74 : decode cX10_sheet 74 = .ok (.iconst 0, 1) := by decide +kernel
theorem dX10_sheet_75 : decode cX10_sheet 75 = .ok (.istore 4, 2) := by decide +kernel
theorem dX10_sheet_77 : decode cX10_sheet 77 = .ok (.iload 4, 2) := by decide +kernel
theorem dX10_sheet_79 : decode cX10_sheet 79 = .ok (.iload_n 3, 1) := by decide +kernel
theorem dX10_sheet_80 : decode cX10_sheet 80 = .ok (.if_icmp .ge 26, 3) := by decide +kernel
theorem dX10_sheet_83 : decode cX10_sheet 83 = .ok (.iload_n 2, 1) := by decide +kernel
theorem dX10_sheet_84 : decode cX10_sheet 84 = .ok (.ifCond .lt 22, 3) := by decide +kernel
theorem dX10_sheet_87 : decode cX10_sheet 87 = .ok (.aload_n 0, 1) := by decide +kernel
theorem dX10_sheet_88 : decode cX10_sheet 88 = .ok (.getfield 93, 3) := by decide +kernel
theorem dX10_sheet_91 : decode cX10_sheet 91 = .ok (.bipush 40, 2) := by decide +kernel
theorem dX10_sheet_93 : decode cX10_sheet 93 = .ok (.iload_n 1, 1) := by decide +kernel
theorem dX10_sheet_94 : decode cX10_sheet 94 = .ok (.imul, 1) := by decide +kernel
theorem dX10_sheet_95 : decode cX10_sheet 95 = .ok (.iload 4, 2) := by decide +kernel
theorem dX10_sheet_97 : decode cX10_sheet 97 = .ok (.iadd, 1) := by decide +kernel
theorem dX10_sheet_98 : decode cX10_sheet 98 = .ok (.iconst 0, 1) := by decide +kernel
theorem dX10_sheet_99 : decode cX10_sheet 99 = .ok (.iastore, 1) := by decide +kernel
theorem dX10_sheet_100 : decode cX10_sheet 100 = .ok (.iinc 4 1, 3) := by decide +kernel
theorem dX10_sheet_103 : decode cX10_sheet 103 = .ok (.goto (-26), 3) := by decide +kernel
theorem dX10_sheet_106 : decode cX10_sheet 106 = .ok (.iconst 1, 1) := by decide +kernel
theorem dX10_sheet_107 : decode cX10_sheet 107 = .ok (.ireturn, 1) := by decide +kernel
theorem dX10_cell_0 : decode cX10_cell 0 = .ok (.iload_n 1, 1) := by decide +kernel
theorem dX10_cell_1 : decode cX10_cell 1 = .ok (.invokestatic 326, 3) := by decide +kernel
theorem dX10_cell_4 : decode cX10_cell 4 = .ok (.ifCond .ne 6, 3) := by decide +kernel
theorem dX10_cell_7 : decode cX10_cell 7 = .ok (.bipush (-2), 2) := by decide +kernel
theorem dX10_cell_9 : decode cX10_cell 9 = .ok (.ireturn, 1) := by decide +kernel
theorem dX10_cell_10 : decode cX10_cell 10 = .ok (.aload_n 0, 1) := by decide +kernel
theorem dX10_cell_11 : decode cX10_cell 11 = .ok (.getfield 83, 3) := by decide +kernel
theorem dX10_cell_14 : decode cX10_cell 14 = .ok (.iload_n 1, 1) := by decide +kernel
theorem dX10_cell_15 : decode cX10_cell 15 = .ok (.baload, 1) := by decide +kernel
theorem dX10_cell_16 : decode cX10_cell 16 = .ok (.ifCond .ne 6, 3) := by decide +kernel
theorem dX10_cell_19 : decode cX10_cell 19 = .ok (.bipush (-11), 2) := by decide +kernel
theorem dX10_cell_21 : decode cX10_cell 21 = .ok (.ireturn, 1) := by decide +kernel
theorem dX10_cell_22 : decode cX10_cell 22 = .ok (.iload_n 2, 1) := by decide +kernel
theorem dX10_cell_23 : decode cX10_cell 23 = .ok (.i2l, 1) := by decide +kernel
theorem dX10_cell_24 : decode cX10_cell 24 = .ok (.lconst 0, 1) := by decide +kernel
theorem dX10_cell_25 : decode cX10_cell 25 = .ok (.aload_n 0, 1) := by decide +kernel
theorem dX10_cell_26 : decode cX10_cell 26 = .ok (.getfield 90, 3) := by decide +kernel
theorem dX10_cell_29 : decode cX10_cell 29 = .ok (.iload_n 1, 1) := by decide +kernel
theorem dX10_cell_30 : decode cX10_cell 30 = .ok (.iaload, 1) := by decide +kernel
theorem dX10_cell_31 : decode cX10_cell 31 = .ok (.iconst 1, 1) := by decide +kernel
theorem dX10_cell_32 : decode cX10_cell 32 = .ok (.isub, 1) := by decide +kernel
theorem dX10_cell_33 : decode cX10_cell 33 = .ok (.i2l, 1) := by decide +kernel
theorem dX10_cell_34 : decode cX10_cell 34 = .ok (.invokestatic 106, 3) := by decide +kernel
theorem dX10_cell_37 : decode cX10_cell 37 = .ok (.ifCond .ne 6, 3) := by decide +kernel
theorem dX10_cell_40 : decode cX10_cell 40 = .ok (.bipush (-12), 2) := by decide +kernel
theorem dX10_cell_42 : decode cX10_cell 42 = .ok (.ireturn, 1) := by decide +kernel
theorem dX10_cell_43 : decode cX10_cell 43 = .ok (.aload_n 0, 1) := by decide +kernel
theorem dX10_cell_44 : decode cX10_cell 44 = .ok (.getfield 93, 3) := by decide +kernel
theorem dX10_cell_47 : decode cX10_cell 47 = .ok (.bipush 40, 2) := by decide +kernel
theorem dX10_cell_49 : decode cX10_cell 49 = .ok (.iload_n 1, 1) := by decide +kernel
theorem dX10_cell_50 : decode cX10_cell 50 = .ok (.imul, 1) := by decide +kernel
theorem dX10_cell_51 : decode cX10_cell 51 = .ok (.iload_n 2, 1) := by decide +kernel
theorem dX10_cell_52 : decode cX10_cell 52 = .ok (.iadd, 1) := by decide +kernel
theorem dX10_cell_53 : decode cX10_cell 53 = .ok (.aload_n 0, 1) := by decide +kernel
theorem dX10_cell_54 : decode cX10_cell 54 = .ok (.getfield 87, 3) := by decide +kernel
theorem dX10_cell_57 : decode cX10_cell 57 = .ok (.iload_n 1, 1) := by decide +kernel
theorem dX10_cell_58 : decode cX10_cell 58 = .ok (.iaload, 1) := by decide +kernel
theorem dX10_cell_59 : decode cX10_cell 59 = .ok (.ifCond .ne 8, 3) := by decide +kernel
theorem dX10_cell_62 : decode cX10_cell 62 = .ok (.iload_n 3, 1) := by decide +kernel
theorem dX10_cell_63 : decode cX10_cell 63 = .ok (.i2b, 1) := by decide +kernel
theorem dX10_cell_64 : decode cX10_cell 64 = .ok (.goto 19, 3) := by decide +kernel
theorem dX10_cell_67 : decode cX10_cell 67 = .ok (.aload_n 0, 1) := by decide +kernel
theorem dX10_cell_68 : decode cX10_cell 68 = .ok (.getfield 87, 3) := by decide +kernel
theorem dX10_cell_71 : decode cX10_cell 71 = .ok (.iload_n 1, 1) := by decide +kernel
theorem dX10_cell_72 : decode cX10_cell 72 = .ok (.iaload, 1) := by decide +kernel
theorem dX10_cell_73 : decode cX10_cell 73 = .ok (.iconst 1, 1) := by decide +kernel
theorem dX10_cell_74 : decode cX10_cell 74 = .ok (.if_icmp .ne 8, 3) := by decide +kernel
theorem dX10_cell_77 : decode cX10_cell 77 = .ok (.iload_n 3, 1) := by decide +kernel
theorem dX10_cell_78 : decode cX10_cell 78 = .ok (.i2s, 1) := by decide +kernel
theorem dX10_cell_79 : decode cX10_cell 79 = .ok (.goto 4, 3) := by decide +kernel
theorem dX10_cell_82 : decode cX10_cell 82 = .ok (.iload_n 3, 1) := by decide +kernel
theorem dX10_cell_83 : decode cX10_cell 83 = .ok (.iastore, 1) := by decide +kernel
theorem dX10_cell_84 : decode cX10_cell 84 = .ok (.iconst 1, 1) := by decide +kernel
theorem dX10_cell_85 : decode cX10_cell 85 = .ok (.ireturn, 1) := by decide +kernel
theorem dX10_copy_0 : decode cX10_copy 0 = .ok (.iload_n 1, 1) := by decide +kernel
theorem dX10_copy_1 : decode cX10_copy 1 = .ok (.invokestatic 326, 3) := by decide +kernel
theorem dX10_copy_4 : decode cX10_copy 4 = .ok (.ifCond .eq 10, 3) := by decide +kernel
theorem dX10_copy_7 : decode cX10_copy 7 = .ok (.iload_n 3, 1) := by decide +kernel
theorem dX10_copy_8 : decode cX10_copy 8 = .ok (.invokestatic 326, 3) := by decide +kernel
theorem dX10_copy_11 : decode cX10_copy 11 = .ok (.ifCond .ne 6, 3) := by decide +kernel
theorem dX10_copy_14 : decode cX10_copy 14 = .ok (.bipush (-2), 2) := by decide +kernel
theorem dX10_copy_16 : decode cX10_copy 16 = .ok (.ireturn, 1) := by decide +kernel
theorem dX10_copy_17 : decode cX10_copy 17 = .ok (.aload_n 0, 1) := by decide +kernel
theorem dX10_copy_18 : decode cX10_copy 18 = .ok (.getfield 83, 3) := by decide +kernel
theorem dX10_copy_21 : decode cX10_copy 21 = .ok (.iload_n 1, 1) := by decide +kernel
theorem dX10_copy_22 : decode cX10_copy 22 = .ok (.baload, 1) := by decide +kernel
theorem dX10_copy_23 : decode cX10_copy 23 = .ok (.ifCond .eq 12, 3) := by decide +kernel
theorem dX10_copy_26 : decode cX10_copy 26 = .ok (.aload_n 0, 1) := by decide +kernel
theorem dX10_copy_27 : decode cX10_copy 27 = .ok (.getfield 83, 3) := by decide +kernel
theorem dX10_copy_30 : decode cX10_copy 30 = .ok (.iload_n 3, 1) := by decide +kernel
theorem dX10_copy_31 : decode cX10_copy 31 = .ok (.baload, 1) := by decide +kernel
theorem dX10_copy_32 : decode cX10_copy 32 = .ok (.ifCond .ne 6, 3) := by decide +kernel
theorem dX10_copy_35 : decode cX10_copy 35 = .ok (.bipush (-11), 2) := by decide +kernel
theorem dX10_copy_37 : decode cX10_copy 37 = .ok (.ireturn, 1) := by decide +kernel
theorem dX10_copy_38 : decode cX10_copy 38 = .ok (.aload_n 0, 1) := by decide +kernel
theorem dX10_copy_39 : decode cX10_copy 39 = .ok (.getfield 87, 3) := by decide +kernel
theorem dX10_copy_42 : decode cX10_copy 42 = .ok (.iload_n 1, 1) := by decide +kernel
theorem dX10_copy_43 : decode cX10_copy 43 = .ok (.iaload, 1) := by decide +kernel
theorem dX10_copy_44 : decode cX10_copy 44 = .ok (.aload_n 0, 1) := by decide +kernel
theorem dX10_copy_45 : decode cX10_copy 45 = .ok (.getfield 87, 3) := by decide +kernel
theorem dX10_copy_48 : decode cX10_copy 48 = .ok (.iload_n 3, 1) := by decide +kernel
theorem dX10_copy_49 : decode cX10_copy 49 = .ok (.iaload, 1) := by decide +kernel
theorem dX10_copy_50 : decode cX10_copy 50 = .ok (.if_icmp .eq 6, 3) := by decide +kernel
theorem dX10_copy_53 : decode cX10_copy 53 = .ok (.bipush (-13), 2) := by decide +kernel
theorem dX10_copy_55 : decode cX10_copy 55 = .ok (.ireturn, 1) := by decide +kernel
theorem dX10_copy_56 : decode cX10_copy 56 = .ok (.iload 5, 2) := by decide +kernel
theorem dX10_copy_58 : decode cX10_copy 58 = .ok (.ifCond .lt 39, 3) := by decide +kernel
theorem dX10_copy_61 : decode cX10_copy 61 = .ok (.iload_n 2, 1) := by decide +kernel
theorem dX10_copy_62 : decode cX10_copy 62 = .ok (.ifCond .lt 35, 3) := by decide +kernel
theorem dX10_copy_65 : decode cX10_copy 65 = .ok (.iload 4, 2) := by decide +kernel
theorem dX10_copy_67 : decode cX10_copy 67 = .ok (.ifCond .lt 30, 3) := by decide +kernel
theorem dX10_copy_70 : decode cX10_copy 70 = .ok (.iload_n 2, 1) := by decide +kernel
theorem dX10_copy_71 : decode cX10_copy 71 = .ok (.aload_n 0, 1) := by decide +kernel
theorem dX10_copy_72 : decode cX10_copy 72 = .ok (.getfield 90, 3) := by decide +kernel
theorem dX10_copy_75 : decode cX10_copy 75 = .ok (.iload_n 1, 1) := by decide +kernel
theorem dX10_copy_76 : decode cX10_copy 76 = .ok (.iaload, 1) := by decide +kernel
theorem dX10_copy_77 : decode cX10_copy 77 = .ok (.iload 5, 2) := by decide +kernel
theorem dX10_copy_79 : decode cX10_copy 79 = .ok (.isub, 1) := by decide +kernel
theorem dX10_copy_80 : decode cX10_copy 80 = .ok (.if_icmp .gt 17, 3) := by decide +kernel
theorem dX10_copy_83 : decode cX10_copy 83 = .ok (.iload 4, 2) := by decide +kernel
theorem dX10_copy_85 : decode cX10_copy 85 = .ok (.aload_n 0, 1) := by decide +kernel
theorem dX10_copy_86 : decode cX10_copy 86 = .ok (.getfield 90, 3) := by decide +kernel
theorem dX10_copy_89 : decode cX10_copy 89 = .ok (.iload_n 3, 1) := by decide +kernel
theorem dX10_copy_90 : decode cX10_copy 90 = .ok (.iaload, 1) := by decide +kernel
theorem dX10_copy_91 : decode cX10_copy 91 = .ok (.iload 5, 2) := by decide +kernel
theorem dX10_copy_93 : decode cX10_copy 93 = .ok (.isub, 1) := by decide +kernel
theorem dX10_copy_94 : decode cX10_copy 94 = .ok (.if_icmp .le 6, 3) := by decide +kernel
theorem dX10_copy_97 : decode cX10_copy 97 = .ok (.bipush (-12), 2) := by decide +kernel
theorem dX10_copy_99 : decode cX10_copy 99 = .ok (.ireturn, 1) := by decide +kernel
theorem dX10_copy_100 : decode cX10_copy 100 = .ok (.iload_n 1, 1) := by decide +kernel
theorem dX10_copy_101 : decode cX10_copy 101 = .ok (.iload_n 3, 1) := by decide +kernel
theorem dX10_copy_102 : decode cX10_copy 102 = .ok (.if_icmp .ne 13, 3) := by decide +kernel
theorem dX10_copy_105 : decode cX10_copy 105 = .ok (.iload_n 2, 1) := by decide +kernel
theorem dX10_copy_106 : decode cX10_copy 106 = .ok (.iload 4, 2) := by decide +kernel
theorem dX10_copy_108 : decode cX10_copy 108 = .ok (.if_icmp .ge 7, 3) := by decide +kernel
theorem dX10_copy_111 : decode cX10_copy 111 = .ok (.iconst 1, 1) := by decide +kernel
theorem dX10_copy_112 : decode cX10_copy 112 = .ok (.goto 4, 3) := by decide +kernel
theorem dX10_copy_115 : decode cX10_copy 115 = .ok (.iconst 0, 1) := by decide +kernel
theorem dX10_copy_116 : decode cX10_copy 116 = .ok (.istore 6, 2) := by decide +kernel
theorem dX10_copy_118 : decode cX10_copy 118 = .ok (.iconst 0, 1) := by decide +kernel
theorem dX10_copy_119 : decode cX10_copy 119 = .ok (.istore 7, 2) := by decide +kernel
theorem dX10_copy_121 : decode cX10_copy 121 = .ok (.iload 7, 2) := by decide +kernel
theorem dX10_copy_123 : decode cX10_copy 123 = .ok (.iload 5, 2) := by decide +kernel
theorem dX10_copy_125 : decode cX10_copy 125 = .ok (.if_icmp .ge 57, 3) := by decide +kernel
theorem dX10_copy_128 : decode cX10_copy 128 = .ok (.iload 6, 2) := by decide +kernel
theorem dX10_copy_130 : decode cX10_copy 130 = .ok (.ifCond .eq 13, 3) := by decide +kernel
theorem dX10_copy_133 : decode cX10_copy 133 = .ok (.iload 5, 2) := by decide +kernel
theorem dX10_copy_135 : decode cX10_copy 135 = .ok (.iconst 1, 1) := by decide +kernel
theorem dX10_copy_136 : decode cX10_copy 136 = .ok (.isub, 1) := by decide +kernel
theorem dX10_copy_137 : decode cX10_copy 137 = .ok (.iload 7, 2) := by decide +kernel
theorem dX10_copy_139 : decode cX10_copy 139 = .ok (.isub, 1) := by decide +kernel
theorem dX10_copy_140 : decode cX10_copy 140 = .ok (.goto 5, 3) := by decide +kernel
theorem dX10_copy_143 : decode cX10_copy 143 = .ok (.iload 7, 2) := by decide +kernel
theorem dX10_copy_145 : decode cX10_copy 145 = .ok (.istore 8, 2) := by decide +kernel
theorem dX10_copy_147 : decode cX10_copy 147 = .ok (.aload_n 0, 1) := by decide +kernel
theorem dX10_copy_148 : decode cX10_copy 148 = .ok (.getfield 93, 3) := by decide +kernel
theorem dX10_copy_151 : decode cX10_copy 151 = .ok (.bipush 40, 2) := by decide +kernel
theorem dX10_copy_153 : decode cX10_copy 153 = .ok (.iload_n 3, 1) := by decide +kernel
theorem dX10_copy_154 : decode cX10_copy 154 = .ok (.imul, 1) := by decide +kernel
theorem dX10_copy_155 : decode cX10_copy 155 = .ok (.iload 4, 2) := by decide +kernel
theorem dX10_copy_157 : decode cX10_copy 157 = .ok (.iadd, 1) := by decide +kernel
theorem dX10_copy_158 : decode cX10_copy 158 = .ok (.iload 8, 2) := by decide +kernel
theorem dX10_copy_160 : decode cX10_copy 160 = .ok (.iadd, 1) := by decide +kernel
theorem dX10_copy_161 : decode cX10_copy 161 = .ok (.aload_n 0, 1) := by decide +kernel
theorem dX10_copy_162 : decode cX10_copy 162 = .ok (.getfield 93, 3) := by decide +kernel
theorem dX10_copy_165 : decode cX10_copy 165 = .ok (.bipush 40, 2) := by decide +kernel
theorem dX10_copy_167 : decode cX10_copy 167 = .ok (.iload_n 1, 1) := by decide +kernel
theorem dX10_copy_168 : decode cX10_copy 168 = .ok (.imul, 1) := by decide +kernel
theorem dX10_copy_169 : decode cX10_copy 169 = .ok (.iload_n 2, 1) := by decide +kernel
theorem dX10_copy_170 : decode cX10_copy 170 = .ok (.iadd, 1) := by decide +kernel
theorem dX10_copy_171 : decode cX10_copy 171 = .ok (.iload 8, 2) := by decide +kernel
theorem dX10_copy_173 : decode cX10_copy 173 = .ok (.iadd, 1) := by decide +kernel
theorem dX10_copy_174 : decode cX10_copy 174 = .ok (.iaload, 1) := by decide +kernel
theorem dX10_copy_175 : decode cX10_copy 175 = .ok (.iastore, 1) := by decide +kernel
theorem dX10_copy_176 : decode cX10_copy 176 = .ok (.iinc 7 1, 3) := by decide +kernel
theorem dX10_copy_179 : decode cX10_copy 179 = .ok (.goto (-58), 3) := by decide +kernel
theorem dX10_copy_182 : decode cX10_copy 182 = .ok (.iload 5, 2) := by decide +kernel
theorem dX10_copy_184 : decode cX10_copy 184 = .ok (.ireturn, 1) := by decide +kernel
theorem dX10_things_0 : decode cX10_things 0 = .ok (.iload_n 1, 1) := by decide +kernel
theorem dX10_things_1 : decode cX10_things 1 = .ok (.invokestatic 326, 3) := by decide +kernel
theorem dX10_things_4 : decode cX10_things 4 = .ok (.ifCond .eq 28, 3) := by decide +kernel
theorem dX10_things_7 : decode cX10_things 7 = .ok (.iload_n 2, 1) := by decide +kernel
theorem dX10_things_8 : decode cX10_things 8 = .ok (.i2l, 1) := by decide +kernel
theorem dX10_things_9 : decode cX10_things 9 = .ok (.lconst 0, 1) := by decide +kernel
theorem dX10_things_10 : decode cX10_things 10 = .ok (.ldc2_w 355, 3) := by decide +kernel
theorem dX10_things_13 : decode cX10_things 13 = .ok (.invokestatic 106, 3) := by decide +kernel
theorem dX10_things_16 : decode cX10_things 16 = .ok (.ifCond .eq 16, 3) := by decide +kernel
theorem dX10_things_19 : decode cX10_things 19 = .ok (.iload 4, 2) := by decide +kernel
theorem dX10_things_21 : decode cX10_things 21 = .ok (.i2l, 1) := by decide +kernel
theorem dX10_things_22 : decode cX10_things 22 = .ok (.lconst 0, 1) := by decide +kernel
theorem dX10_things_23 : decode cX10_things 23 = .ok (.ldc2_w 357, 3) := by decide +kernel
theorem dX10_things_26 : decode cX10_things 26 = .ok (.invokestatic 106, 3) := by decide +kernel
theorem dX10_things_29 : decode cX10_things 29 = .ok (.ifCond .ne 6, 3) := by decide +kernel
theorem dX10_things_32 : decode cX10_things 32 = .ok (.bipush (-2), 2) := by decide +kernel
theorem dX10_things_34 : decode cX10_things 34 = .ok (.ireturn, 1) := by decide +kernel
theorem dX10_things_35 : decode cX10_things 35 = .ok (.aload_n 0, 1) := by decide +kernel
theorem dX10_things_36 : decode cX10_things 36 = .ok (.getfield 83, 3) := by decide +kernel
theorem dX10_things_39 : decode cX10_things 39 = .ok (.iload_n 1, 1) := by decide +kernel
theorem dX10_things_40 : decode cX10_things 40 = .ok (.baload, 1) := by decide +kernel
theorem dX10_things_41 : decode cX10_things 41 = .ok (.ifCond .eq 16, 3) := by decide +kernel
theorem dX10_things_44 : decode cX10_things 44 = .ok (.aload_n 0, 1) := by decide +kernel
theorem dX10_things_45 : decode cX10_things 45 = .ok (.getfield 87, 3) := by decide +kernel
theorem dX10_things_48 : decode cX10_things 48 = .ok (.iload_n 1, 1) := by decide +kernel
theorem dX10_things_49 : decode cX10_things 49 = .ok (.iaload, 1) := by decide +kernel
theorem dX10_things_50 : decode cX10_things 50 = .ok (.iload_n 2, 1) := by decide +kernel
theorem dX10_things_51 : decode cX10_things 51 = .ok (.if_icmp .eq 6, 3) := by decide +kernel
theorem dX10_things_54 : decode cX10_things 54 = .ok (.bipush (-13), 2) := by decide +kernel
theorem dX10_things_56 : decode cX10_things 56 = .ok (.ireturn, 1) := by decide +kernel
theorem dX10_things_57 : decode cX10_things 57 = .ok (.aload_n 0, 1) := by decide +kernel
theorem dX10_things_58 : decode cX10_things 58 = .ok (.getfield 83, 3) := by decide +kernel
theorem dX10_things_61 : decode cX10_things 61 = .ok (.iload_n 1, 1) := by decide +kernel
theorem dX10_things_62 : decode cX10_things 62 = .ok (.baload, 1) := by decide +kernel
theorem dX10_things_63 : decode cX10_things 63 = .ok (.ifCond .ne 6, 3) := by decide +kernel
theorem dX10_things_66 : decode cX10_things 66 = .ok (.bipush (-11), 2) := by decide +kernel
theorem dX10_things_68 : decode cX10_things 68 = .ok (.ireturn, 1) := by decide +kernel
theorem dX10_things_69 : decode cX10_things 69 = .ok (.iconst 0, 1) := by decide +kernel
theorem dX10_things_70 : decode cX10_things 70 = .ok (.istore 5, 2) := by decide +kernel
theorem dX10_things_72 : decode cX10_things 72 = .ok (.iconst 0, 1) := by decide +kernel
theorem dX10_things_73 : decode cX10_things 73 = .ok (.istore 6, 2) := by decide +kernel
theorem dX10_things_75 : decode cX10_things 75 = .ok (.iload 6, 2) := by decide +kernel
theorem dX10_things_77 : decode cX10_things 77 = .ok (.iload 4, 2) := by decide +kernel
theorem dX10_things_79 : decode cX10_things 79 = .ok (.if_icmp .ge 79, 3) := by decide +kernel
theorem dX10_things_82 : decode cX10_things 82 = .ok (.iload_n 3, 1) := by decide +kernel
theorem dX10_things_83 : decode cX10_things 83 = .ok (.ifCond .lt 20, 3) := by decide +kernel
theorem dX10_things_86 : decode cX10_things 86 = .ok (.iload_n 3, 1) := by decide +kernel
theorem dX10_things_87 : decode cX10_things 87 = .ok (.aload_n 0, 1) := by decide +kernel
theorem dX10_things_88 : decode cX10_things 88 = .ok (.getfield 90, 3) := by decide +kernel
theorem dX10_things_91 : decode cX10_things 91 = .ok (.iload_n 1, 1) := by decide +kernel
theorem dX10_things_92 : decode cX10_things 92 = .ok (.iaload, 1) := by decide +kernel
theorem dX10_things_93 : decode cX10_things 93 = .ok (.iconst 2, 1) := by decide +kernel
theorem dX10_things_94 : decode cX10_things 94 = .ok (.iload 6, 2) := by decide +kernel
theorem dX10_things_96 : decode cX10_things 96 = .ok (.imul, 1) := by decide +kernel
theorem dX10_things_97 : decode cX10_things 97 = .ok (.isub, 1) := by decide +kernel
theorem dX10_things_98 : decode cX10_things 98 = .ok (.iconst 2, 1) := by decide +kernel
theorem dX10_things_99 : decode cX10_things 99 = .ok (.isub, 1) := by decide +kernel
theorem dX10_things_100 : decode cX10_things 100 = .ok (.if_icmp .le 6, 3) := by decide +kernel
theorem dX10_things_103 : decode cX10_things 103 = .ok (.bipush (-12), 2) := by decide +kernel
theorem dX10_things_105 : decode cX10_things 105 = .ok (.ireturn, 1) := by decide +kernel
theorem dX10_things_106 : decode cX10_things 106 = .ok (.bipush 40, 2) := by decide +kernel
theorem dX10_things_108 : decode cX10_things 108 = .ok (.iload_n 1, 1) := by decide +kernel
theorem dX10_things_109 : decode cX10_things 109 = .ok (.imul, 1) := by decide +kernel
theorem dX10_things_110 : decode cX10_things 110 = .ok (.iload_n 3, 1) := by decide +kernel
theorem dX10_things_111 : decode cX10_things 111 = .ok (.iadd, 1) := by decide +kernel
theorem dX10_things_112 : decode cX10_things 112 = .ok (.iconst 2, 1) := by decide +kernel
theorem dX10_things_113 : decode cX10_things 113 = .ok (.iload 6, 2) := by decide +kernel
theorem dX10_things_115 : decode cX10_things 115 = .ok (.imul, 1) := by decide +kernel
theorem dX10_things_116 : decode cX10_things 116 = .ok (.iadd, 1) := by decide +kernel
theorem dX10_things_117 : decode cX10_things 117 = .ok (.istore 7, 2) := by decide +kernel
theorem dX10_things_119 : decode cX10_things 119 = .ok (.iload 5, 2) := by decide +kernel
theorem dX10_things_121 : decode cX10_things 121 = .ok (.aload_n 0, 1) := by decide +kernel
theorem dX10_things_122 : decode cX10_things 122 = .ok (.aload_n 0, 1) := by decide +kernel
theorem dX10_things_123 : decode cX10_things 123 = .ok (.getfield 93, 3) := by decide +kernel
theorem dX10_things_126 : decode cX10_things 126 = .ok (.iload 7, 2) := by decide +kernel
theorem dX10_things_128 : decode cX10_things 128 = .ok (.iaload, 1) := by decide +kernel
theorem dX10_things_129 : decode cX10_things 129 = .ok (.aload_n 0, 1) := by decide +kernel
theorem dX10_things_130 : decode cX10_things 130 = .ok (.getfield 93, 3) := by decide +kernel
theorem dX10_things_133 : decode cX10_things 133 = .ok (.iload 7, 2) := by decide +kernel
theorem dX10_things_135 : decode cX10_things 135 = .ok (.iconst 1, 1) := by decide +kernel
theorem dX10_things_136 : decode cX10_things 136 = .ok (.iadd, 1) := by decide +kernel
theorem dX10_things_137 : decode cX10_things 137 = .ok (.iaload, 1) := by decide +kernel
theorem dX10_things_138 : decode cX10_things 138 = .ok (.invokevirtual 359, 3) := by decide +kernel
theorem dX10_things_141 : decode cX10_things 141 = .ok (.ifCond .lt 7, 3) := by decide +kernel
theorem dX10_things_144 : decode cX10_things 144 = .ok (.iconst 1, 1) := by decide +kernel
theorem dX10_things_145 : decode cX10_things 145 = .ok (.goto 4, 3) := by decide +kernel
theorem dX10_things_148 : decode cX10_things 148 = .ok (.iconst 0, 1) := by decide +kernel
theorem dX10_things_149 : decode cX10_things 149 = .ok (.iadd, 1) := by decide +kernel
theorem dX10_things_150 : decode cX10_things 150 = .ok (.istore 5, 2) := by decide +kernel
theorem dX10_things_152 : decode cX10_things 152 = .ok (.iinc 6 1, 3) := by decide +kernel
theorem dX10_things_155 : decode cX10_things 155 = .ok (.goto (-80), 3) := by decide +kernel
theorem dX10_things_158 : decode cX10_things 158 = .ok (.iload 5, 2) := by decide +kernel
theorem dX10_things_160 : decode cX10_things 160 = .ok (.ireturn, 1) := by decide +kernel
theorem dX10_over_0 : decode cX10_over 0 = .ok (.iload_n 0, 1) := by decide +kernel
theorem dX10_over_1 : decode cX10_over 1 = .ok (.ifCond .ne 7, 3) := by decide +kernel
theorem dX10_over_4 : decode cX10_over 4 = .ok (.iconst (-1), 1) := by decide +kernel
theorem dX10_over_5 : decode cX10_over 5 = .ok (.goto 27, 3) := by decide +kernel
theorem dX10_over_8 : decode cX10_over 8 = .ok (.iload_n 0, 1) := by decide +kernel
theorem dX10_over_9 : decode cX10_over 9 = .ok (.iconst 1, 1) := by decide +kernel
theorem dX10_over_10 : decode cX10_over 10 = .ok (.if_icmp .eq 8, 3) := by decide +kernel
theorem dX10_over_13 : decode cX10_over 13 = .ok (.iload_n 0, 1) := by decide +kernel
theorem dX10_over_14 : decode cX10_over 14 = .ok (.iconst 2, 1) := by decide +kernel
theorem dX10_over_15 : decode cX10_over 15 = .ok (.if_icmp .ne 7, 3) := by decide +kernel
theorem dX10_over_18 : decode cX10_over 18 = .ok (.iconst 0, 1) := by decide +kernel
theorem dX10_over_19 : decode cX10_over 19 = .ok (.goto 13, 3) := by decide +kernel
theorem dX10_over_22 : decode cX10_over 22 = .ok (.iload_n 0, 1) := by decide +kernel
theorem dX10_over_23 : decode cX10_over 23 = .ok (.iconst 5, 1) := by decide +kernel
theorem dX10_over_24 : decode cX10_over 24 = .ok (.if_icmp .ne 7, 3) := by decide +kernel
theorem dX10_over_27 : decode cX10_over 27 = .ok (.iconst 2, 1) := by decide +kernel
theorem dX10_over_28 : decode cX10_over 28 = .ok (.goto 4, 3) := by decide +kernel
theorem dX10_over_31 : decode cX10_over 31 = .ok (.iconst 1, 1) := by decide +kernel
theorem dX10_over_32 : decode cX10_over 32 = .ok (.ireturn, 1) := by decide +kernel
theorem dX10_taken_0 : decode cX10_taken 0 = .ok (.iload_n 2, 1) := by decide +kernel
theorem dX10_taken_1 : decode cX10_taken 1 = .ok (.i2l, 1) := by decide +kernel
theorem dX10_taken_2 : decode cX10_taken 2 = .ok (.lconst 0, 1) := by decide +kernel
theorem dX10_taken_3 : decode cX10_taken 3 = .ok (.ldc2_w 116, 3) := by decide +kernel
theorem dX10_taken_6 : decode cX10_taken 6 = .ok (.invokestatic 106, 3) := by decide +kernel
theorem dX10_taken_9 : decode cX10_taken 9 = .ok (.ifCond .ne 6, 3) := by decide +kernel
theorem dX10_taken_12 : decode cX10_taken 12 = .ok (.bipush (-2), 2) := by decide +kernel
theorem dX10_taken_14 : decode cX10_taken 14 = .ok (.ireturn, 1) := by decide +kernel
theorem dX10_taken_15 : decode cX10_taken 15 = .ok (.aload_n 0, 1) := by decide +kernel
theorem dX10_taken_16 : decode cX10_taken 16 = .ok (.iload_n 1, 1) := by decide +kernel
theorem dX10_taken_17 : decode cX10_taken 17 = .ok (.invokevirtual 132, 3) := by decide +kernel
theorem dX10_taken_20 : decode cX10_taken 20 = .ok (.ifCond .ne 6, 3) := by decide +kernel
theorem dX10_taken_23 : decode cX10_taken 23 = .ok (.bipush (-11), 2) := by decide +kernel
theorem dX10_taken_25 : decode cX10_taken 25 = .ok (.ireturn, 1) := by decide +kernel
theorem dX10_taken_26 : decode cX10_taken 26 = .ok (.aload_n 0, 1) := by decide +kernel
theorem dX10_taken_27 : decode cX10_taken 27 = .ok (.getfield 23, 3) := by decide +kernel
theorem dX10_taken_30 : decode cX10_taken 30 = .ok (.iload_n 1, 1) := by decide +kernel
theorem dX10_taken_31 : decode cX10_taken 31 = .ok (.iaload, 1) := by decide +kernel
theorem dX10_taken_32 : decode cX10_taken 32 = .ok (.istore_n 3, 1) := by decide +kernel
theorem dX10_taken_33 : decode cX10_taken 33 = .ok (.iload_n 3, 1) := by decide +kernel
theorem dX10_taken_34 : decode cX10_taken 34 = .ok (.iconst (-1), 1) := by decide +kernel
theorem dX10_taken_35 : decode cX10_taken 35 = .ok (.if_icmp .eq 16, 3) := by decide +kernel
theorem dX10_taken_38 : decode cX10_taken 38 = .ok (.iload_n 3, 1) := by decide +kernel
theorem dX10_taken_39 : decode cX10_taken 39 = .ok (.iload_n 2, 1) := by decide +kernel
theorem dX10_taken_40 : decode cX10_taken 40 = .ok (.if_icmp .eq 11, 3) := by decide +kernel
theorem dX10_taken_43 : decode cX10_taken 43 = .ok (.iload_n 3, 1) := by decide +kernel
theorem dX10_taken_44 : decode cX10_taken 44 = .ok (.invokestatic 362, 3) := by decide +kernel
theorem dX10_taken_47 : decode cX10_taken 47 = .ok (.istore_n 3, 1) := by decide +kernel
theorem dX10_taken_48 : decode cX10_taken 48 = .ok (.goto (-15), 3) := by decide +kernel
theorem dX10_taken_51 : decode cX10_taken 51 = .ok (.iload_n 3, 1) := by decide +kernel
theorem dX10_taken_52 : decode cX10_taken 52 = .ok (.iload_n 2, 1) := by decide +kernel
theorem dX10_taken_53 : decode cX10_taken 53 = .ok (.if_icmp .ne 12, 3) := by decide +kernel
theorem dX10_taken_56 : decode cX10_taken 56 = .ok (.aload_n 0, 1) := by decide +kernel
theorem dX10_taken_57 : decode cX10_taken 57 = .ok (.getfield 35, 3) := by decide +kernel
theorem dX10_taken_60 : decode cX10_taken 60 = .ok (.iload_n 1, 1) := by decide +kernel
theorem dX10_taken_61 : decode cX10_taken 61 = .ok (.iaload, 1) := by decide +kernel
theorem dX10_taken_62 : decode cX10_taken 62 = .ok (.goto 5, 3) := by decide +kernel
theorem dX10_taken_65 : decode cX10_taken 65 = .ok (.bipush (-13), 2) := by decide +kernel
theorem dX10_taken_67 : decode cX10_taken 67 = .ok (.ireturn, 1) := by decide +kernel
