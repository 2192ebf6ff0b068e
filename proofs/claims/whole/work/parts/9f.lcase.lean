/-! THE LAW: its script, and each of its calls -/
section S9f
variable {p : Program} {l : Launch} {e : Env} {R : Room} {s : State} {m : MethodId} {args : Array Value} {below : List Frame} {meth : Method} {c : Code} {D : va_G} {cy : Nat → ClassId} {ad : Nat → Nat → Nat} {A : Nat → Prop} {cells slots d : Nat} {Q : State → Prop} {b L : Nat} {xs : Nat → Int32}
theorem V_sld {G nL pc : Nat} {cc : ByteArray} {own : String} {lv : List (Nat × Value)} {st : List Value} {M : wS} (C : CX p s m args c cc nL own D cy ad G A R d cells slots) (hX : va_X b L xs s s.heap) (hbl : b < s.heap.size) (hbA : ¬ A b) {x : Int32} (j : Nat) (hx : x = nI j) (hj : j < L) (hL31 : L < 2 ^ 31) (hd : decode cc pc = .ok (.iaload, 1)) (k : V p l e R s m args below meth c nL D cy ad G A cells slots Q (pc + 1) lv (.int (xs j) :: st) M) : V p l e R s m args below meth c nL D cy ad G A cells slots Q pc lv (.int x :: .ref b :: st) M := by
  intro H locs ls h1 h2 h3
  subst hx
  refine va_sld C.1 C.2.1 hX hbl hbA h2 (vp_in_nI hj hL31) hd ?_
  rw [nI_clamp (Nat.lt_trans hj hL31)]
  exact k H locs ls h1 h2 h3
theorem V_slen {G nL pc : Nat} {cc : ByteArray} {own : String} {lv : List (Nat × Value)} {st : List Value} {M : wS} (C : CX p s m args c cc nL own D cy ad G A R d cells slots) (hX : va_X b L xs s s.heap) (hbl : b < s.heap.size) (hbA : ¬ A b) (hd : decode cc pc = .ok (.arraylength, 1)) (k : V p l e R s m args below meth c nL D cy ad G A cells slots Q (pc + 1) lv (.int (nI L) :: st) M) : V p l e R s m args below meth c nL D cy ad G A cells slots Q pc lv (.ref b :: st) M :=
  fun H locs ls h1 h2 h3 => va_slen C.1 C.2.1 hX hbl hbA h2 hd (k H locs ls h1 h2 h3)
theorem lc_buyer (C : CX p s m args c code 4 "CostsAgeLaw" D cy ad 56 A R d cells slots) (hd : 48 ≤ d) (hX : va_X b L xs s s.heap) (hbl : b < s.heap.size) (hbA : ¬ A b) (hL31 : L < 2 ^ 31) {i : Nat} (hi : i + 6 ≤ L) {M : wS} (h : RZ M) (go : ∀ M', RZ M' → V p l e R s m args below meth c 4 D cy ad 56 A cells slots Q 1097 [(0, .ref b), (1, .ref (ad 0 0)), (2, .ref (ad 30 0)), (3, .int (nI i))] [] M') : V p l e R s m args below meth c 4 D cy ad 56 A cells slots Q 172 [(0, .ref b), (1, .ref (ad 0 0)), (2, .ref (ad 30 0)), (3, .int (nI i))] [] M := by
  have hG : 56 ≤ 56 := Nat.le_refl 56
  obtain ⟨Q1, k1, k2⟩ := p_buyer (l := l) (D := D) (cy := cy) (ad := ad) (d := d - 1) hG (by omega) h (xs (i + 1)) (xs (i + 2)) (xs (i + 3))
  refine V_aload_n (pc := 172) C 1 dlaw_172 rfl rfl ?_
  refine V_aload_n (pc := 173) C 0 dlaw_173 rfl rfl ?_
  refine V_iload_n (pc := 174) C 3 dlaw_174 rfl rfl ?_
  refine V_iconst (v := 1) (pc := 175) C dlaw_175 (by decide) ?_
  refine V_iadd (pc := 176) C dlaw_176 ?_
  refine V_sld (pc := 177) C hX hbl hbA (i + 1) (nI_add i 1) (by omega) hL31 dlaw_177 ?_
  refine V_aload_n (pc := 178) C 0 dlaw_178 rfl rfl ?_
  refine V_iload_n (pc := 179) C 3 dlaw_179 rfl rfl ?_
  refine V_iconst (v := 2) (pc := 180) C dlaw_180 (by decide) ?_
  refine V_iadd (pc := 181) C dlaw_181 ?_
  refine V_sld (pc := 182) C hX hbl hbA (i + 2) (nI_add i 2) (by omega) hL31 dlaw_182 ?_
  refine V_aload_n (pc := 183) C 0 dlaw_183 rfl rfl ?_
  refine V_iload_n (pc := 184) C 3 dlaw_184 rfl rfl ?_
  refine V_iconst (v := 3) (pc := 185) C dlaw_185 (by decide) ?_
  refine V_iadd (pc := 186) C dlaw_186 ?_
  refine V_sld (pc := 187) C hX hbl hbA (i + 3) (nI_add i 3) (by omega) hL31 dlaw_187 ?_
  refine call_L_13 (pc := 188) C (k1) (by omega) (wg hG (by decide) (by decide)) (Nat.le_of_ble_eq_true rfl) dlaw_188 (fun x_188 M_188 h_188 => ?_)
  refine V_aload_n (pc := 191) C 2 dlaw_191 rfl rfl ?_
  refine V_aload_n (pc := 192) C 0 dlaw_192 rfl rfl ?_
  refine V_iload_n (pc := 193) C 3 dlaw_193 rfl rfl ?_
  refine V_iconst (v := 1) (pc := 194) C dlaw_194 (by decide) ?_
  refine V_iadd (pc := 195) C dlaw_195 ?_
  refine V_sld (pc := 196) C hX hbl hbA (i + 1) (nI_add i 1) (by omega) hL31 dlaw_196 ?_
  refine V_aload_n (pc := 197) C 0 dlaw_197 rfl rfl ?_
  refine V_iload_n (pc := 198) C 3 dlaw_198 rfl rfl ?_
  refine V_iconst (v := 2) (pc := 199) C dlaw_199 (by decide) ?_
  refine V_iadd (pc := 200) C dlaw_200 ?_
  refine V_sld (pc := 201) C hX hbl hbA (i + 2) (nI_add i 2) (by omega) hL31 dlaw_201 ?_
  refine V_aload_n (pc := 202) C 0 dlaw_202 rfl rfl ?_
  refine V_iload_n (pc := 203) C 3 dlaw_203 rfl rfl ?_
  refine V_iconst (v := 3) (pc := 204) C dlaw_204 (by decide) ?_
  refine V_iadd (pc := 205) C dlaw_205 ?_
  refine V_sld (pc := 206) C hX hbl hbA (i + 3) (nI_add i 3) (by omega) hL31 dlaw_206 ?_
  refine call_L_17 (pc := 207) C (k2 _ _ h_188) (by omega) (wg hG (by decide) (by decide)) (Nat.le_of_ble_eq_true rfl) dlaw_207 (fun x_207 M_207 h_207 => ?_)
  obtain ⟨e1, hz⟩ := h_207
  refine V_icmp_eq (tgt := 1097) (pc := 210) C dlaw_210 (by decide) (fun h_210 => ?_) (fun h_210 => ?_)
  · exact go _ hz
  · exact absurd e1 h_210
theorem lc_thing (C : CX p s m args c code 4 "CostsAgeLaw" D cy ad 56 A R d cells slots) (hd : 48 ≤ d) (hX : va_X b L xs s s.heap) (hbl : b < s.heap.size) (hbA : ¬ A b) (hL31 : L < 2 ^ 31) {i : Nat} (hi : i + 6 ≤ L) {M : wS} (h : RZ M) (go : ∀ M', RZ M' → V p l e R s m args below meth c 4 D cy ad 56 A cells slots Q 1097 [(0, .ref b), (1, .ref (ad 0 0)), (2, .ref (ad 30 0)), (3, .int (nI i))] [] M') : V p l e R s m args below meth c 4 D cy ad 56 A cells slots Q 215 [(0, .ref b), (1, .ref (ad 0 0)), (2, .ref (ad 30 0)), (3, .int (nI i))] [] M := by
  have hG : 56 ≤ 56 := Nat.le_refl 56
  obtain ⟨Q1, k1, k2⟩ := p_thing (l := l) (D := D) (cy := cy) (ad := ad) (d := d - 1) hG (by omega) h (xs (i + 1)) (xs (i + 2))
  refine V_aload_n (pc := 215) C 1 dlaw_215 rfl rfl ?_
  refine V_aload_n (pc := 216) C 0 dlaw_216 rfl rfl ?_
  refine V_iload_n (pc := 217) C 3 dlaw_217 rfl rfl ?_
  refine V_iconst (v := 1) (pc := 218) C dlaw_218 (by decide) ?_
  refine V_iadd (pc := 219) C dlaw_219 ?_
  refine V_sld (pc := 220) C hX hbl hbA (i + 1) (nI_add i 1) (by omega) hL31 dlaw_220 ?_
  refine V_aload_n (pc := 221) C 0 dlaw_221 rfl rfl ?_
  refine V_iload_n (pc := 222) C 3 dlaw_222 rfl rfl ?_
  refine V_iconst (v := 2) (pc := 223) C dlaw_223 (by decide) ?_
  refine V_iadd (pc := 224) C dlaw_224 ?_
  refine V_sld (pc := 225) C hX hbl hbA (i + 2) (nI_add i 2) (by omega) hL31 dlaw_225 ?_
  refine call_L_18 (pc := 226) C (k1) (by omega) (wg hG (by decide) (by decide)) (Nat.le_of_ble_eq_true rfl) dlaw_226 (fun x_226 M_226 h_226 => ?_)
  refine V_aload_n (pc := 229) C 2 dlaw_229 rfl rfl ?_
  refine V_aload_n (pc := 230) C 0 dlaw_230 rfl rfl ?_
  refine V_iload_n (pc := 231) C 3 dlaw_231 rfl rfl ?_
  refine V_iconst (v := 1) (pc := 232) C dlaw_232 (by decide) ?_
  refine V_iadd (pc := 233) C dlaw_233 ?_
  refine V_sld (pc := 234) C hX hbl hbA (i + 1) (nI_add i 1) (by omega) hL31 dlaw_234 ?_
  refine V_aload_n (pc := 235) C 0 dlaw_235 rfl rfl ?_
  refine V_iload_n (pc := 236) C 3 dlaw_236 rfl rfl ?_
  refine V_iconst (v := 2) (pc := 237) C dlaw_237 (by decide) ?_
  refine V_iadd (pc := 238) C dlaw_238 ?_
  refine V_sld (pc := 239) C hX hbl hbA (i + 2) (nI_add i 2) (by omega) hL31 dlaw_239 ?_
  refine call_L_22 (pc := 240) C (k2 _ _ h_226) (by omega) (wg hG (by decide) (by decide)) (Nat.le_of_ble_eq_true rfl) dlaw_240 (fun x_240 M_240 h_240 => ?_)
  obtain ⟨e1, hz⟩ := h_240
  refine V_icmp_eq (tgt := 1097) (pc := 243) C dlaw_243 (by decide) (fun h_243 => ?_) (fun h_243 => ?_)
  · exact go _ hz
  · exact absurd e1 h_243
theorem lc_set (C : CX p s m args c code 4 "CostsAgeLaw" D cy ad 56 A R d cells slots) (hd : 48 ≤ d) (hX : va_X b L xs s s.heap) (hbl : b < s.heap.size) (hbA : ¬ A b) (hL31 : L < 2 ^ 31) {i : Nat} (hi : i + 6 ≤ L) {M : wS} (h : RZ M) (go : ∀ M', RZ M' → V p l e R s m args below meth c 4 D cy ad 56 A cells slots Q 1097 [(0, .ref b), (1, .ref (ad 0 0)), (2, .ref (ad 30 0)), (3, .int (nI i))] [] M') : V p l e R s m args below meth c 4 D cy ad 56 A cells slots Q 248 [(0, .ref b), (1, .ref (ad 0 0)), (2, .ref (ad 30 0)), (3, .int (nI i))] [] M := by
  have hG : 56 ≤ 56 := Nat.le_refl 56
  obtain ⟨Q1, k1, k2⟩ := p_set (l := l) (D := D) (cy := cy) (ad := ad) (d := d - 1) hG (by omega) h (xs (i + 1)) (xs (i + 2)) (xs (i + 3))
  refine V_aload_n (pc := 248) C 1 dlaw_248 rfl rfl ?_
  refine V_aload_n (pc := 249) C 0 dlaw_249 rfl rfl ?_
  refine V_iload_n (pc := 250) C 3 dlaw_250 rfl rfl ?_
  refine V_iconst (v := 1) (pc := 251) C dlaw_251 (by decide) ?_
  refine V_iadd (pc := 252) C dlaw_252 ?_
  refine V_sld (pc := 253) C hX hbl hbA (i + 1) (nI_add i 1) (by omega) hL31 dlaw_253 ?_
  refine V_aload_n (pc := 254) C 0 dlaw_254 rfl rfl ?_
  refine V_iload_n (pc := 255) C 3 dlaw_255 rfl rfl ?_
  refine V_iconst (v := 2) (pc := 256) C dlaw_256 (by decide) ?_
  refine V_iadd (pc := 257) C dlaw_257 ?_
  refine V_sld (pc := 258) C hX hbl hbA (i + 2) (nI_add i 2) (by omega) hL31 dlaw_258 ?_
  refine V_aload_n (pc := 259) C 0 dlaw_259 rfl rfl ?_
  refine V_iload_n (pc := 260) C 3 dlaw_260 rfl rfl ?_
  refine V_iconst (v := 3) (pc := 261) C dlaw_261 (by decide) ?_
  refine V_iadd (pc := 262) C dlaw_262 ?_
  refine V_sld (pc := 263) C hX hbl hbA (i + 3) (nI_add i 3) (by omega) hL31 dlaw_263 ?_
  refine call_L_23 (pc := 264) C (k1) (by omega) (wg hG (by decide) (by decide)) (Nat.le_of_ble_eq_true rfl) dlaw_264 (fun x_264 M_264 h_264 => ?_)
  refine V_aload_n (pc := 267) C 2 dlaw_267 rfl rfl ?_
  refine V_aload_n (pc := 268) C 0 dlaw_268 rfl rfl ?_
  refine V_iload_n (pc := 269) C 3 dlaw_269 rfl rfl ?_
  refine V_iconst (v := 1) (pc := 270) C dlaw_270 (by decide) ?_
  refine V_iadd (pc := 271) C dlaw_271 ?_
  refine V_sld (pc := 272) C hX hbl hbA (i + 1) (nI_add i 1) (by omega) hL31 dlaw_272 ?_
  refine V_aload_n (pc := 273) C 0 dlaw_273 rfl rfl ?_
  refine V_iload_n (pc := 274) C 3 dlaw_274 rfl rfl ?_
  refine V_iconst (v := 2) (pc := 275) C dlaw_275 (by decide) ?_
  refine V_iadd (pc := 276) C dlaw_276 ?_
  refine V_sld (pc := 277) C hX hbl hbA (i + 2) (nI_add i 2) (by omega) hL31 dlaw_277 ?_
  refine V_aload_n (pc := 278) C 0 dlaw_278 rfl rfl ?_
  refine V_iload_n (pc := 279) C 3 dlaw_279 rfl rfl ?_
  refine V_iconst (v := 3) (pc := 280) C dlaw_280 (by decide) ?_
  refine V_iadd (pc := 281) C dlaw_281 ?_
  refine V_sld (pc := 282) C hX hbl hbA (i + 3) (nI_add i 3) (by omega) hL31 dlaw_282 ?_
  refine call_L_26 (pc := 283) C (k2 _ _ h_264) (by omega) (wg hG (by decide) (by decide)) (Nat.le_of_ble_eq_true rfl) dlaw_283 (fun x_283 M_283 h_283 => ?_)
  obtain ⟨e1, hz⟩ := h_283
  refine V_icmp_eq (tgt := 1097) (pc := 286) C dlaw_286 (by decide) (fun h_286 => ?_) (fun h_286 => ?_)
  · exact go _ hz
  · exact absurd e1 h_286
theorem lc_told (C : CX p s m args c code 4 "CostsAgeLaw" D cy ad 56 A R d cells slots) (hd : 48 ≤ d) (hX : va_X b L xs s s.heap) (hbl : b < s.heap.size) (hbA : ¬ A b) (hL31 : L < 2 ^ 31) {i : Nat} (hi : i + 6 ≤ L) {M : wS} (h : RZ M) (go : ∀ M', RZ M' → V p l e R s m args below meth c 4 D cy ad 56 A cells slots Q 1097 [(0, .ref b), (1, .ref (ad 0 0)), (2, .ref (ad 30 0)), (3, .int (nI i))] [] M') : V p l e R s m args below meth c 4 D cy ad 56 A cells slots Q 291 [(0, .ref b), (1, .ref (ad 0 0)), (2, .ref (ad 30 0)), (3, .int (nI i))] [] M := by
  have hG : 56 ≤ 56 := Nat.le_refl 56
  obtain ⟨Q1, k1, k2⟩ := p_told (l := l) (D := D) (cy := cy) (ad := ad) (d := d - 1) hG (by omega) h (xs (i + 1)) (xs (i + 2))
  refine V_aload_n (pc := 291) C 1 dlaw_291 rfl rfl ?_
  refine V_aload_n (pc := 292) C 0 dlaw_292 rfl rfl ?_
  refine V_iload_n (pc := 293) C 3 dlaw_293 rfl rfl ?_
  refine V_iconst (v := 1) (pc := 294) C dlaw_294 (by decide) ?_
  refine V_iadd (pc := 295) C dlaw_295 ?_
  refine V_sld (pc := 296) C hX hbl hbA (i + 1) (nI_add i 1) (by omega) hL31 dlaw_296 ?_
  refine V_aload_n (pc := 297) C 0 dlaw_297 rfl rfl ?_
  refine V_iload_n (pc := 298) C 3 dlaw_298 rfl rfl ?_
  refine V_iconst (v := 2) (pc := 299) C dlaw_299 (by decide) ?_
  refine V_iadd (pc := 300) C dlaw_300 ?_
  refine V_sld (pc := 301) C hX hbl hbA (i + 2) (nI_add i 2) (by omega) hL31 dlaw_301 ?_
  refine call_L_27 (pc := 302) C (k1) (by omega) (wg hG (by decide) (by decide)) (Nat.le_of_ble_eq_true rfl) dlaw_302 (fun x_302 M_302 h_302 => ?_)
  refine V_aload_n (pc := 305) C 2 dlaw_305 rfl rfl ?_
  refine V_aload_n (pc := 306) C 0 dlaw_306 rfl rfl ?_
  refine V_iload_n (pc := 307) C 3 dlaw_307 rfl rfl ?_
  refine V_iconst (v := 1) (pc := 308) C dlaw_308 (by decide) ?_
  refine V_iadd (pc := 309) C dlaw_309 ?_
  refine V_sld (pc := 310) C hX hbl hbA (i + 1) (nI_add i 1) (by omega) hL31 dlaw_310 ?_
  refine V_aload_n (pc := 311) C 0 dlaw_311 rfl rfl ?_
  refine V_iload_n (pc := 312) C 3 dlaw_312 rfl rfl ?_
  refine V_iconst (v := 2) (pc := 313) C dlaw_313 (by decide) ?_
  refine V_iadd (pc := 314) C dlaw_314 ?_
  refine V_sld (pc := 315) C hX hbl hbA (i + 2) (nI_add i 2) (by omega) hL31 dlaw_315 ?_
  refine call_L_30 (pc := 316) C (k2 _ _ h_302) (by omega) (wg hG (by decide) (by decide)) (Nat.le_of_ble_eq_true rfl) dlaw_316 (fun x_316 M_316 h_316 => ?_)
  obtain ⟨e1, hz⟩ := h_316
  refine V_icmp_eq (tgt := 1097) (pc := 319) C dlaw_319 (by decide) (fun h_319 => ?_) (fun h_319 => ?_)
  · exact go _ hz
  · exact absurd e1 h_319
theorem lc_feed (C : CX p s m args c code 4 "CostsAgeLaw" D cy ad 56 A R d cells slots) (hd : 48 ≤ d) (hX : va_X b L xs s s.heap) (hbl : b < s.heap.size) (hbA : ¬ A b) (hL31 : L < 2 ^ 31) {i : Nat} (hi : i + 6 ≤ L) {M : wS} (h : RZ M) (go : ∀ M', RZ M' → V p l e R s m args below meth c 4 D cy ad 56 A cells slots Q 1097 [(0, .ref b), (1, .ref (ad 0 0)), (2, .ref (ad 30 0)), (3, .int (nI i))] [] M') : V p l e R s m args below meth c 4 D cy ad 56 A cells slots Q 324 [(0, .ref b), (1, .ref (ad 0 0)), (2, .ref (ad 30 0)), (3, .int (nI i))] [] M := by
  have hG : 56 ≤ 56 := Nat.le_refl 56
  obtain ⟨Q1, k1, k2⟩ := p_feed (l := l) (D := D) (cy := cy) (ad := ad) (d := d - 1) hG (by omega) h (xs (i + 1))
  refine V_aload_n (pc := 324) C 1 dlaw_324 rfl rfl ?_
  refine V_aload_n (pc := 325) C 0 dlaw_325 rfl rfl ?_
  refine V_iload_n (pc := 326) C 3 dlaw_326 rfl rfl ?_
  refine V_iconst (v := 1) (pc := 327) C dlaw_327 (by decide) ?_
  refine V_iadd (pc := 328) C dlaw_328 ?_
  refine V_sld (pc := 329) C hX hbl hbA (i + 1) (nI_add i 1) (by omega) hL31 dlaw_329 ?_
  refine call_L_31 (pc := 330) C (k1) (by omega) (wg hG (by decide) (by decide)) (Nat.le_of_ble_eq_true rfl) dlaw_330 (fun x_330 M_330 h_330 => ?_)
  refine V_aload_n (pc := 333) C 2 dlaw_333 rfl rfl ?_
  refine V_aload_n (pc := 334) C 0 dlaw_334 rfl rfl ?_
  refine V_iload_n (pc := 335) C 3 dlaw_335 rfl rfl ?_
  refine V_iconst (v := 1) (pc := 336) C dlaw_336 (by decide) ?_
  refine V_iadd (pc := 337) C dlaw_337 ?_
  refine V_sld (pc := 338) C hX hbl hbA (i + 1) (nI_add i 1) (by omega) hL31 dlaw_338 ?_
  refine call_L_35 (pc := 339) C (k2 _ _ h_330) (by omega) (wg hG (by decide) (by decide)) (Nat.le_of_ble_eq_true rfl) dlaw_339 (fun x_339 M_339 h_339 => ?_)
  obtain ⟨e1, hz⟩ := h_339
  refine V_icmp_eq (tgt := 1097) (pc := 342) C dlaw_342 (by decide) (fun h_342 => ?_) (fun h_342 => ?_)
  · exact go _ hz
  · exact absurd e1 h_342
theorem lc_text (C : CX p s m args c code 4 "CostsAgeLaw" D cy ad 56 A R d cells slots) (hd : 48 ≤ d) (hX : va_X b L xs s s.heap) (hbl : b < s.heap.size) (hbA : ¬ A b) (hL31 : L < 2 ^ 31) {i : Nat} (hi : i + 6 ≤ L) {M : wS} (h : RZ M) (go : ∀ M', RZ M' → V p l e R s m args below meth c 4 D cy ad 56 A cells slots Q 1097 [(0, .ref b), (1, .ref (ad 0 0)), (2, .ref (ad 30 0)), (3, .int (nI i))] [] M') : V p l e R s m args below meth c 4 D cy ad 56 A cells slots Q 347 [(0, .ref b), (1, .ref (ad 0 0)), (2, .ref (ad 30 0)), (3, .int (nI i))] [] M := by
  have hG : 56 ≤ 56 := Nat.le_refl 56
  obtain ⟨Q1, k1, k2⟩ := p_text (l := l) (D := D) (cy := cy) (ad := ad) (d := d - 1) hG (by omega) h
  refine V_aload_n (pc := 347) C 1 dlaw_347 rfl rfl ?_
  refine call_L_36 (pc := 348) C (k1) (by omega) (wg hG (by decide) (by decide)) (Nat.le_of_ble_eq_true rfl) dlaw_348 (fun x_348 M_348 h_348 => ?_)
  refine V_aload_n (pc := 351) C 2 dlaw_351 rfl rfl ?_
  refine call_L_40 (pc := 352) C (k2 _ _ h_348) (by omega) (wg hG (by decide) (by decide)) (Nat.le_of_ble_eq_true rfl) dlaw_352 (fun x_352 M_352 h_352 => ?_)
  obtain ⟨e1, hz⟩ := h_352
  refine V_icmp_eq (tgt := 1097) (pc := 355) C dlaw_355 (by decide) (fun h_355 => ?_) (fun h_355 => ?_)
  · exact go _ hz
  · exact absurd e1 h_355
theorem lc_force (C : CX p s m args c code 4 "CostsAgeLaw" D cy ad 56 A R d cells slots) (hd : 48 ≤ d) (hX : va_X b L xs s s.heap) (hbl : b < s.heap.size) (hbA : ¬ A b) (hL31 : L < 2 ^ 31) {i : Nat} (hi : i + 6 ≤ L) {M : wS} (h : RZ M) (go : ∀ M', RZ M' → V p l e R s m args below meth c 4 D cy ad 56 A cells slots Q 1097 [(0, .ref b), (1, .ref (ad 0 0)), (2, .ref (ad 30 0)), (3, .int (nI i))] [] M') : V p l e R s m args below meth c 4 D cy ad 56 A cells slots Q 360 [(0, .ref b), (1, .ref (ad 0 0)), (2, .ref (ad 30 0)), (3, .int (nI i))] [] M := by
  have hG : 56 ≤ 56 := Nat.le_refl 56
  obtain ⟨Q1, k1, k2⟩ := p_force (l := l) (D := D) (cy := cy) (ad := ad) (d := d - 1) hG (by omega) h (xs (i + 1))
  refine V_aload_n (pc := 360) C 1 dlaw_360 rfl rfl ?_
  refine V_aload_n (pc := 361) C 0 dlaw_361 rfl rfl ?_
  refine V_iload_n (pc := 362) C 3 dlaw_362 rfl rfl ?_
  refine V_iconst (v := 1) (pc := 363) C dlaw_363 (by decide) ?_
  refine V_iadd (pc := 364) C dlaw_364 ?_
  refine V_sld (pc := 365) C hX hbl hbA (i + 1) (nI_add i 1) (by omega) hL31 dlaw_365 ?_
  refine call_L_41 (pc := 366) C (k1) (by omega) (wg hG (by decide) (by decide)) (Nat.le_of_ble_eq_true rfl) dlaw_366 (fun x_366 M_366 h_366 => ?_)
  refine V_aload_n (pc := 369) C 2 dlaw_369 rfl rfl ?_
  refine V_aload_n (pc := 370) C 0 dlaw_370 rfl rfl ?_
  refine V_iload_n (pc := 371) C 3 dlaw_371 rfl rfl ?_
  refine V_iconst (v := 1) (pc := 372) C dlaw_372 (by decide) ?_
  refine V_iadd (pc := 373) C dlaw_373 ?_
  refine V_sld (pc := 374) C hX hbl hbA (i + 1) (nI_add i 1) (by omega) hL31 dlaw_374 ?_
  refine call_L_44 (pc := 375) C (k2 _ _ h_366) (by omega) (wg hG (by decide) (by decide)) (Nat.le_of_ble_eq_true rfl) dlaw_375 (fun x_375 M_375 h_375 => ?_)
  obtain ⟨e1, hz⟩ := h_375
  refine V_icmp_eq (tgt := 1097) (pc := 378) C dlaw_378 (by decide) (fun h_378 => ?_) (fun h_378 => ?_)
  · exact go _ hz
  · exact absurd e1 h_378
theorem lc_years (C : CX p s m args c code 4 "CostsAgeLaw" D cy ad 56 A R d cells slots) (hd : 48 ≤ d) (hX : va_X b L xs s s.heap) (hbl : b < s.heap.size) (hbA : ¬ A b) (hL31 : L < 2 ^ 31) {i : Nat} (hi : i + 6 ≤ L) {M : wS} (h : RZ M) (go : ∀ M', RZ M' → V p l e R s m args below meth c 4 D cy ad 56 A cells slots Q 1097 [(0, .ref b), (1, .ref (ad 0 0)), (2, .ref (ad 30 0)), (3, .int (nI i))] [] M') : V p l e R s m args below meth c 4 D cy ad 56 A cells slots Q 383 [(0, .ref b), (1, .ref (ad 0 0)), (2, .ref (ad 30 0)), (3, .int (nI i))] [] M := by
  have hG : 56 ≤ 56 := Nat.le_refl 56
  obtain ⟨Q1, k1, k2⟩ := p_years (l := l) (D := D) (cy := cy) (ad := ad) (d := d - 1) hG (by omega) h (xs (i + 1)) (xs (i + 2))
  refine V_aload_n (pc := 383) C 1 dlaw_383 rfl rfl ?_
  refine V_aload_n (pc := 384) C 0 dlaw_384 rfl rfl ?_
  refine V_iload_n (pc := 385) C 3 dlaw_385 rfl rfl ?_
  refine V_iconst (v := 1) (pc := 386) C dlaw_386 (by decide) ?_
  refine V_iadd (pc := 387) C dlaw_387 ?_
  refine V_sld (pc := 388) C hX hbl hbA (i + 1) (nI_add i 1) (by omega) hL31 dlaw_388 ?_
  refine V_aload_n (pc := 389) C 0 dlaw_389 rfl rfl ?_
  refine V_iload_n (pc := 390) C 3 dlaw_390 rfl rfl ?_
  refine V_iconst (v := 2) (pc := 391) C dlaw_391 (by decide) ?_
  refine V_iadd (pc := 392) C dlaw_392 ?_
  refine V_sld (pc := 393) C hX hbl hbA (i + 2) (nI_add i 2) (by omega) hL31 dlaw_393 ?_
  refine call_L_45 (pc := 394) C (k1) (by omega) (wg hG (by decide) (by decide)) (Nat.le_of_ble_eq_true rfl) dlaw_394 (fun x_394 M_394 h_394 => ?_)
  refine V_aload_n (pc := 397) C 2 dlaw_397 rfl rfl ?_
  refine V_aload_n (pc := 398) C 0 dlaw_398 rfl rfl ?_
  refine V_iload_n (pc := 399) C 3 dlaw_399 rfl rfl ?_
  refine V_iconst (v := 1) (pc := 400) C dlaw_400 (by decide) ?_
  refine V_iadd (pc := 401) C dlaw_401 ?_
  refine V_sld (pc := 402) C hX hbl hbA (i + 1) (nI_add i 1) (by omega) hL31 dlaw_402 ?_
  refine V_aload_n (pc := 403) C 0 dlaw_403 rfl rfl ?_
  refine V_iload_n (pc := 404) C 3 dlaw_404 rfl rfl ?_
  refine V_iconst (v := 2) (pc := 405) C dlaw_405 (by decide) ?_
  refine V_iadd (pc := 406) C dlaw_406 ?_
  refine V_sld (pc := 407) C hX hbl hbA (i + 2) (nI_add i 2) (by omega) hL31 dlaw_407 ?_
  refine call_L_48 (pc := 408) C (k2 _ _ h_394) (by omega) (wg hG (by decide) (by decide)) (Nat.le_of_ble_eq_true rfl) dlaw_408 (fun x_408 M_408 h_408 => ?_)
  obtain ⟨e1, hz⟩ := h_408
  refine V_icmp_eq (tgt := 1097) (pc := 411) C dlaw_411 (by decide) (fun h_411 => ?_) (fun h_411 => ?_)
  · exact go _ hz
  · exact absurd e1 h_411
theorem lc_cost (C : CX p s m args c code 4 "CostsAgeLaw" D cy ad 56 A R d cells slots) (hd : 48 ≤ d) (hX : va_X b L xs s s.heap) (hbl : b < s.heap.size) (hbA : ¬ A b) (hL31 : L < 2 ^ 31) {i : Nat} (hi : i + 6 ≤ L) {M : wS} (h : RZ M) (go : ∀ M', RZ M' → V p l e R s m args below meth c 4 D cy ad 56 A cells slots Q 1097 [(0, .ref b), (1, .ref (ad 0 0)), (2, .ref (ad 30 0)), (3, .int (nI i))] [] M') : V p l e R s m args below meth c 4 D cy ad 56 A cells slots Q 416 [(0, .ref b), (1, .ref (ad 0 0)), (2, .ref (ad 30 0)), (3, .int (nI i))] [] M := by
  have hG : 56 ≤ 56 := Nat.le_refl 56
  obtain ⟨Q1, k1, k2⟩ := p_cost (l := l) (D := D) (cy := cy) (ad := ad) (d := d - 1) hG (by omega) h (xs (i + 1)) (xs (i + 2)) (xs (i + 3))
  refine V_aload_n (pc := 416) C 1 dlaw_416 rfl rfl ?_
  refine V_aload_n (pc := 417) C 0 dlaw_417 rfl rfl ?_
  refine V_iload_n (pc := 418) C 3 dlaw_418 rfl rfl ?_
  refine V_iconst (v := 1) (pc := 419) C dlaw_419 (by decide) ?_
  refine V_iadd (pc := 420) C dlaw_420 ?_
  refine V_sld (pc := 421) C hX hbl hbA (i + 1) (nI_add i 1) (by omega) hL31 dlaw_421 ?_
  refine V_aload_n (pc := 422) C 0 dlaw_422 rfl rfl ?_
  refine V_iload_n (pc := 423) C 3 dlaw_423 rfl rfl ?_
  refine V_iconst (v := 2) (pc := 424) C dlaw_424 (by decide) ?_
  refine V_iadd (pc := 425) C dlaw_425 ?_
  refine V_sld (pc := 426) C hX hbl hbA (i + 2) (nI_add i 2) (by omega) hL31 dlaw_426 ?_
  refine V_aload_n (pc := 427) C 0 dlaw_427 rfl rfl ?_
  refine V_iload_n (pc := 428) C 3 dlaw_428 rfl rfl ?_
  refine V_iconst (v := 3) (pc := 429) C dlaw_429 (by decide) ?_
  refine V_iadd (pc := 430) C dlaw_430 ?_
  refine V_sld (pc := 431) C hX hbl hbA (i + 3) (nI_add i 3) (by omega) hL31 dlaw_431 ?_
  refine call_L_49 (pc := 432) C (k1) (by omega) (wg hG (by decide) (by decide)) (Nat.le_of_ble_eq_true rfl) dlaw_432 (fun x_432 M_432 h_432 => ?_)
  refine V_aload_n (pc := 435) C 2 dlaw_435 rfl rfl ?_
  refine V_aload_n (pc := 436) C 0 dlaw_436 rfl rfl ?_
  refine V_iload_n (pc := 437) C 3 dlaw_437 rfl rfl ?_
  refine V_iconst (v := 1) (pc := 438) C dlaw_438 (by decide) ?_
  refine V_iadd (pc := 439) C dlaw_439 ?_
  refine V_sld (pc := 440) C hX hbl hbA (i + 1) (nI_add i 1) (by omega) hL31 dlaw_440 ?_
  refine V_aload_n (pc := 441) C 0 dlaw_441 rfl rfl ?_
  refine V_iload_n (pc := 442) C 3 dlaw_442 rfl rfl ?_
  refine V_iconst (v := 2) (pc := 443) C dlaw_443 (by decide) ?_
  refine V_iadd (pc := 444) C dlaw_444 ?_
  refine V_sld (pc := 445) C hX hbl hbA (i + 2) (nI_add i 2) (by omega) hL31 dlaw_445 ?_
  refine V_aload_n (pc := 446) C 0 dlaw_446 rfl rfl ?_
  refine V_iload_n (pc := 447) C 3 dlaw_447 rfl rfl ?_
  refine V_iconst (v := 3) (pc := 448) C dlaw_448 (by decide) ?_
  refine V_iadd (pc := 449) C dlaw_449 ?_
  refine V_sld (pc := 450) C hX hbl hbA (i + 3) (nI_add i 3) (by omega) hL31 dlaw_450 ?_
  refine call_L_52 (pc := 451) C (k2 _ _ h_432) (by omega) (wg hG (by decide) (by decide)) (Nat.le_of_ble_eq_true rfl) dlaw_451 (fun x_451 M_451 h_451 => ?_)
  obtain ⟨e1, hz⟩ := h_451
  refine V_icmp_eq (tgt := 1097) (pc := 454) C dlaw_454 (by decide) (fun h_454 => ?_) (fun h_454 => ?_)
  · exact go _ hz
  · exact absurd e1 h_454
theorem lc_best (C : CX p s m args c code 4 "CostsAgeLaw" D cy ad 56 A R d cells slots) (hd : 48 ≤ d) (hX : va_X b L xs s s.heap) (hbl : b < s.heap.size) (hbA : ¬ A b) (hL31 : L < 2 ^ 31) {i : Nat} (hi : i + 6 ≤ L) {M : wS} (h : RZ M) (go : ∀ M', RZ M' → V p l e R s m args below meth c 4 D cy ad 56 A cells slots Q 1097 [(0, .ref b), (1, .ref (ad 0 0)), (2, .ref (ad 30 0)), (3, .int (nI i))] [] M') : V p l e R s m args below meth c 4 D cy ad 56 A cells slots Q 459 [(0, .ref b), (1, .ref (ad 0 0)), (2, .ref (ad 30 0)), (3, .int (nI i))] [] M := by
  have hG : 56 ≤ 56 := Nat.le_refl 56
  obtain ⟨Q1, k1, k2⟩ := p_best (l := l) (D := D) (cy := cy) (ad := ad) (d := d - 1) hG (by omega) h (xs (i + 1)) (xs (i + 2)) (xs (i + 3))
  refine V_aload_n (pc := 459) C 1 dlaw_459 rfl rfl ?_
  refine V_aload_n (pc := 460) C 0 dlaw_460 rfl rfl ?_
  refine V_iload_n (pc := 461) C 3 dlaw_461 rfl rfl ?_
  refine V_iconst (v := 1) (pc := 462) C dlaw_462 (by decide) ?_
  refine V_iadd (pc := 463) C dlaw_463 ?_
  refine V_sld (pc := 464) C hX hbl hbA (i + 1) (nI_add i 1) (by omega) hL31 dlaw_464 ?_
  refine V_aload_n (pc := 465) C 0 dlaw_465 rfl rfl ?_
  refine V_iload_n (pc := 466) C 3 dlaw_466 rfl rfl ?_
  refine V_iconst (v := 2) (pc := 467) C dlaw_467 (by decide) ?_
  refine V_iadd (pc := 468) C dlaw_468 ?_
  refine V_sld (pc := 469) C hX hbl hbA (i + 2) (nI_add i 2) (by omega) hL31 dlaw_469 ?_
  refine V_aload_n (pc := 470) C 0 dlaw_470 rfl rfl ?_
  refine V_iload_n (pc := 471) C 3 dlaw_471 rfl rfl ?_
  refine V_iconst (v := 3) (pc := 472) C dlaw_472 (by decide) ?_
  refine V_iadd (pc := 473) C dlaw_473 ?_
  refine V_sld (pc := 474) C hX hbl hbA (i + 3) (nI_add i 3) (by omega) hL31 dlaw_474 ?_
  refine call_L_53 (pc := 475) C (k1) (by omega) (wg hG (by decide) (by decide)) (Nat.le_of_ble_eq_true rfl) dlaw_475 (fun x_475 M_475 h_475 => ?_)
  refine V_aload_n (pc := 478) C 2 dlaw_478 rfl rfl ?_
  refine V_aload_n (pc := 479) C 0 dlaw_479 rfl rfl ?_
  refine V_iload_n (pc := 480) C 3 dlaw_480 rfl rfl ?_
  refine V_iconst (v := 1) (pc := 481) C dlaw_481 (by decide) ?_
  refine V_iadd (pc := 482) C dlaw_482 ?_
  refine V_sld (pc := 483) C hX hbl hbA (i + 1) (nI_add i 1) (by omega) hL31 dlaw_483 ?_
  refine V_aload_n (pc := 484) C 0 dlaw_484 rfl rfl ?_
  refine V_iload_n (pc := 485) C 3 dlaw_485 rfl rfl ?_
  refine V_iconst (v := 2) (pc := 486) C dlaw_486 (by decide) ?_
  refine V_iadd (pc := 487) C dlaw_487 ?_
  refine V_sld (pc := 488) C hX hbl hbA (i + 2) (nI_add i 2) (by omega) hL31 dlaw_488 ?_
  refine V_aload_n (pc := 489) C 0 dlaw_489 rfl rfl ?_
  refine V_iload_n (pc := 490) C 3 dlaw_490 rfl rfl ?_
  refine V_iconst (v := 3) (pc := 491) C dlaw_491 (by decide) ?_
  refine V_iadd (pc := 492) C dlaw_492 ?_
  refine V_sld (pc := 493) C hX hbl hbA (i + 3) (nI_add i 3) (by omega) hL31 dlaw_493 ?_
  refine call_L_56 (pc := 494) C (k2 _ _ h_475) (by omega) (wg hG (by decide) (by decide)) (Nat.le_of_ble_eq_true rfl) dlaw_494 (fun x_494 M_494 h_494 => ?_)
  obtain ⟨e1, hz⟩ := h_494
  refine V_icmp_eq (tgt := 1097) (pc := 497) C dlaw_497 (by decide) (fun h_497 => ?_) (fun h_497 => ?_)
  · exact go _ hz
  · exact absurd e1 h_497
theorem lc_when (C : CX p s m args c code 4 "CostsAgeLaw" D cy ad 56 A R d cells slots) (hd : 48 ≤ d) (hX : va_X b L xs s s.heap) (hbl : b < s.heap.size) (hbA : ¬ A b) (hL31 : L < 2 ^ 31) {i : Nat} (hi : i + 6 ≤ L) {M : wS} (h : RZ M) (go : ∀ M', RZ M' → V p l e R s m args below meth c 4 D cy ad 56 A cells slots Q 1097 [(0, .ref b), (1, .ref (ad 0 0)), (2, .ref (ad 30 0)), (3, .int (nI i))] [] M') : V p l e R s m args below meth c 4 D cy ad 56 A cells slots Q 502 [(0, .ref b), (1, .ref (ad 0 0)), (2, .ref (ad 30 0)), (3, .int (nI i))] [] M := by
  have hG : 56 ≤ 56 := Nat.le_refl 56
  obtain ⟨Q1, k1, k2⟩ := p_when (l := l) (D := D) (cy := cy) (ad := ad) (d := d - 1) hG (by omega) h (xs (i + 1)) (xs (i + 2))
  refine V_aload_n (pc := 502) C 1 dlaw_502 rfl rfl ?_
  refine V_aload_n (pc := 503) C 0 dlaw_503 rfl rfl ?_
  refine V_iload_n (pc := 504) C 3 dlaw_504 rfl rfl ?_
  refine V_iconst (v := 1) (pc := 505) C dlaw_505 (by decide) ?_
  refine V_iadd (pc := 506) C dlaw_506 ?_
  refine V_sld (pc := 507) C hX hbl hbA (i + 1) (nI_add i 1) (by omega) hL31 dlaw_507 ?_
  refine V_aload_n (pc := 508) C 0 dlaw_508 rfl rfl ?_
  refine V_iload_n (pc := 509) C 3 dlaw_509 rfl rfl ?_
  refine V_iconst (v := 2) (pc := 510) C dlaw_510 (by decide) ?_
  refine V_iadd (pc := 511) C dlaw_511 ?_
  refine V_sld (pc := 512) C hX hbl hbA (i + 2) (nI_add i 2) (by omega) hL31 dlaw_512 ?_
  refine call_L_57 (pc := 513) C (k1) (by omega) (wg hG (by decide) (by decide)) (Nat.le_of_ble_eq_true rfl) dlaw_513 (fun x_513 M_513 h_513 => ?_)
  refine V_aload_n (pc := 516) C 2 dlaw_516 rfl rfl ?_
  refine V_aload_n (pc := 517) C 0 dlaw_517 rfl rfl ?_
  refine V_iload_n (pc := 518) C 3 dlaw_518 rfl rfl ?_
  refine V_iconst (v := 1) (pc := 519) C dlaw_519 (by decide) ?_
  refine V_iadd (pc := 520) C dlaw_520 ?_
  refine V_sld (pc := 521) C hX hbl hbA (i + 1) (nI_add i 1) (by omega) hL31 dlaw_521 ?_
  refine V_aload_n (pc := 522) C 0 dlaw_522 rfl rfl ?_
  refine V_iload_n (pc := 523) C 3 dlaw_523 rfl rfl ?_
  refine V_iconst (v := 2) (pc := 524) C dlaw_524 (by decide) ?_
  refine V_iadd (pc := 525) C dlaw_525 ?_
  refine V_sld (pc := 526) C hX hbl hbA (i + 2) (nI_add i 2) (by omega) hL31 dlaw_526 ?_
  refine call_L_60 (pc := 527) C (k2 _ _ h_513) (by omega) (wg hG (by decide) (by decide)) (Nat.le_of_ble_eq_true rfl) dlaw_527 (fun x_527 M_527 h_527 => ?_)
  obtain ⟨e1, hz⟩ := h_527
  refine V_icmp_eq (tgt := 1097) (pc := 530) C dlaw_530 (by decide) (fun h_530 => ?_) (fun h_530 => ?_)
  · exact go _ hz
  · exact absurd e1 h_530
theorem lc_buy (C : CX p s m args c code 4 "CostsAgeLaw" D cy ad 56 A R d cells slots) (hd : 48 ≤ d) (hX : va_X b L xs s s.heap) (hbl : b < s.heap.size) (hbA : ¬ A b) (hL31 : L < 2 ^ 31) {i : Nat} (hi : i + 6 ≤ L) {M : wS} (h : RZ M) (go : ∀ M', RZ M' → V p l e R s m args below meth c 4 D cy ad 56 A cells slots Q 1097 [(0, .ref b), (1, .ref (ad 0 0)), (2, .ref (ad 30 0)), (3, .int (nI i))] [] M') : V p l e R s m args below meth c 4 D cy ad 56 A cells slots Q 535 [(0, .ref b), (1, .ref (ad 0 0)), (2, .ref (ad 30 0)), (3, .int (nI i))] [] M := by
  have hG : 56 ≤ 56 := Nat.le_refl 56
  obtain ⟨Q1, k1, k2⟩ := p_buy (l := l) (D := D) (cy := cy) (ad := ad) (d := d - 1) hG (by omega) h (xs (i + 1)) (xs (i + 2))
  refine V_aload_n (pc := 535) C 1 dlaw_535 rfl rfl ?_
  refine V_aload_n (pc := 536) C 0 dlaw_536 rfl rfl ?_
  refine V_iload_n (pc := 537) C 3 dlaw_537 rfl rfl ?_
  refine V_iconst (v := 1) (pc := 538) C dlaw_538 (by decide) ?_
  refine V_iadd (pc := 539) C dlaw_539 ?_
  refine V_sld (pc := 540) C hX hbl hbA (i + 1) (nI_add i 1) (by omega) hL31 dlaw_540 ?_
  refine V_aload_n (pc := 541) C 0 dlaw_541 rfl rfl ?_
  refine V_iload_n (pc := 542) C 3 dlaw_542 rfl rfl ?_
  refine V_iconst (v := 2) (pc := 543) C dlaw_543 (by decide) ?_
  refine V_iadd (pc := 544) C dlaw_544 ?_
  refine V_sld (pc := 545) C hX hbl hbA (i + 2) (nI_add i 2) (by omega) hL31 dlaw_545 ?_
  refine call_L_61 (pc := 546) C (k1) (by omega) (wg hG (by decide) (by decide)) (Nat.le_of_ble_eq_true rfl) dlaw_546 (fun x_546 M_546 h_546 => ?_)
  refine V_aload_n (pc := 549) C 2 dlaw_549 rfl rfl ?_
  refine V_aload_n (pc := 550) C 0 dlaw_550 rfl rfl ?_
  refine V_iload_n (pc := 551) C 3 dlaw_551 rfl rfl ?_
  refine V_iconst (v := 1) (pc := 552) C dlaw_552 (by decide) ?_
  refine V_iadd (pc := 553) C dlaw_553 ?_
  refine V_sld (pc := 554) C hX hbl hbA (i + 1) (nI_add i 1) (by omega) hL31 dlaw_554 ?_
  refine V_aload_n (pc := 555) C 0 dlaw_555 rfl rfl ?_
  refine V_iload_n (pc := 556) C 3 dlaw_556 rfl rfl ?_
  refine V_iconst (v := 2) (pc := 557) C dlaw_557 (by decide) ?_
  refine V_iadd (pc := 558) C dlaw_558 ?_
  refine V_sld (pc := 559) C hX hbl hbA (i + 2) (nI_add i 2) (by omega) hL31 dlaw_559 ?_
  refine call_L_64 (pc := 560) C (k2 _ _ h_546) (by omega) (wg hG (by decide) (by decide)) (Nat.le_of_ble_eq_true rfl) dlaw_560 (fun x_560 M_560 h_560 => ?_)
  obtain ⟨e1, hz⟩ := h_560
  refine V_icmp_eq (tgt := 1097) (pc := 563) C dlaw_563 (by decide) (fun h_563 => ?_) (fun h_563 => ?_)
  · exact go _ hz
  · exact absurd e1 h_563
theorem lc_pass (C : CX p s m args c code 4 "CostsAgeLaw" D cy ad 56 A R d cells slots) (hd : 48 ≤ d) (hX : va_X b L xs s s.heap) (hbl : b < s.heap.size) (hbA : ¬ A b) (hL31 : L < 2 ^ 31) {i : Nat} (hi : i + 6 ≤ L) {M : wS} (h : RZ M) (go : ∀ M', RZ M' → V p l e R s m args below meth c 4 D cy ad 56 A cells slots Q 1097 [(0, .ref b), (1, .ref (ad 0 0)), (2, .ref (ad 30 0)), (3, .int (nI i))] [] M') : V p l e R s m args below meth c 4 D cy ad 56 A cells slots Q 568 [(0, .ref b), (1, .ref (ad 0 0)), (2, .ref (ad 30 0)), (3, .int (nI i))] [] M := by
  have hG : 56 ≤ 56 := Nat.le_refl 56
  obtain ⟨Q1, k1, k2⟩ := p_pass (l := l) (D := D) (cy := cy) (ad := ad) (d := d - 1) hG (by omega) h
  refine V_aload_n (pc := 568) C 1 dlaw_568 rfl rfl ?_
  refine call_L_65 (pc := 569) C (k1) (by omega) (wg hG (by decide) (by decide)) (Nat.le_of_ble_eq_true rfl) dlaw_569 (fun x_569 M_569 h_569 => ?_)
  refine V_aload_n (pc := 572) C 2 dlaw_572 rfl rfl ?_
  refine call_L_68 (pc := 573) C (k2 _ _ h_569) (by omega) (wg hG (by decide) (by decide)) (Nat.le_of_ble_eq_true rfl) dlaw_573 (fun x_573 M_573 h_573 => ?_)
  obtain ⟨e1, hz⟩ := h_573
  refine V_icmp_eq (tgt := 1097) (pc := 576) C dlaw_576 (by decide) (fun h_576 => ?_) (fun h_576 => ?_)
  · exact go _ hz
  · exact absurd e1 h_576
theorem lc_all (C : CX p s m args c code 4 "CostsAgeLaw" D cy ad 56 A R d cells slots) (hd : 48 ≤ d) (hX : va_X b L xs s s.heap) (hbl : b < s.heap.size) (hbA : ¬ A b) (hL31 : L < 2 ^ 31) {i : Nat} (hi : i + 6 ≤ L) {M : wS} (h : RZ M) (go : ∀ M', RZ M' → V p l e R s m args below meth c 4 D cy ad 56 A cells slots Q 1097 [(0, .ref b), (1, .ref (ad 0 0)), (2, .ref (ad 30 0)), (3, .int (nI i))] [] M') : V p l e R s m args below meth c 4 D cy ad 56 A cells slots Q 581 [(0, .ref b), (1, .ref (ad 0 0)), (2, .ref (ad 30 0)), (3, .int (nI i))] [] M := by
  have hG : 56 ≤ 56 := Nat.le_refl 56
  obtain ⟨Q1, k1, k2⟩ := p_all (l := l) (D := D) (cy := cy) (ad := ad) (d := d - 1) hG (by omega) h (xs (i + 1))
  refine V_aload_n (pc := 581) C 1 dlaw_581 rfl rfl ?_
  refine V_aload_n (pc := 582) C 0 dlaw_582 rfl rfl ?_
  refine V_iload_n (pc := 583) C 3 dlaw_583 rfl rfl ?_
  refine V_iconst (v := 1) (pc := 584) C dlaw_584 (by decide) ?_
  refine V_iadd (pc := 585) C dlaw_585 ?_
  refine V_sld (pc := 586) C hX hbl hbA (i + 1) (nI_add i 1) (by omega) hL31 dlaw_586 ?_
  refine call_L_69 (pc := 587) C (k1) (by omega) (wg hG (by decide) (by decide)) (Nat.le_of_ble_eq_true rfl) dlaw_587 (fun x_587 M_587 h_587 => ?_)
  refine V_aload_n (pc := 590) C 2 dlaw_590 rfl rfl ?_
  refine V_aload_n (pc := 591) C 0 dlaw_591 rfl rfl ?_
  refine V_iload_n (pc := 592) C 3 dlaw_592 rfl rfl ?_
  refine V_iconst (v := 1) (pc := 593) C dlaw_593 (by decide) ?_
  refine V_iadd (pc := 594) C dlaw_594 ?_
  refine V_sld (pc := 595) C hX hbl hbA (i + 1) (nI_add i 1) (by omega) hL31 dlaw_595 ?_
  refine call_L_72 (pc := 596) C (k2 _ _ h_587) (by omega) (wg hG (by decide) (by decide)) (Nat.le_of_ble_eq_true rfl) dlaw_596 (fun x_596 M_596 h_596 => ?_)
  obtain ⟨e1, hz⟩ := h_596
  refine V_icmp_eq (tgt := 1097) (pc := 599) C dlaw_599 (by decide) (fun h_599 => ?_) (fun h_599 => ?_)
  · exact go _ hz
  · exact absurd e1 h_599
theorem lc_heap (C : CX p s m args c code 4 "CostsAgeLaw" D cy ad 56 A R d cells slots) (hd : 48 ≤ d) (hX : va_X b L xs s s.heap) (hbl : b < s.heap.size) (hbA : ¬ A b) (hL31 : L < 2 ^ 31) {i : Nat} (hi : i + 6 ≤ L) {M : wS} (h : RZ M) (go : ∀ M', RZ M' → V p l e R s m args below meth c 4 D cy ad 56 A cells slots Q 1097 [(0, .ref b), (1, .ref (ad 0 0)), (2, .ref (ad 30 0)), (3, .int (nI i))] [] M') : V p l e R s m args below meth c 4 D cy ad 56 A cells slots Q 604 [(0, .ref b), (1, .ref (ad 0 0)), (2, .ref (ad 30 0)), (3, .int (nI i))] [] M := by
  have hG : 56 ≤ 56 := Nat.le_refl 56
  obtain ⟨Q1, k1, k2⟩ := p_heap (l := l) (D := D) (cy := cy) (ad := ad) (d := d - 1) hG (by omega) h (xs (i + 1))
  refine V_aload_n (pc := 604) C 1 dlaw_604 rfl rfl ?_
  refine V_aload_n (pc := 605) C 0 dlaw_605 rfl rfl ?_
  refine V_iload_n (pc := 606) C 3 dlaw_606 rfl rfl ?_
  refine V_iconst (v := 1) (pc := 607) C dlaw_607 (by decide) ?_
  refine V_iadd (pc := 608) C dlaw_608 ?_
  refine V_sld (pc := 609) C hX hbl hbA (i + 1) (nI_add i 1) (by omega) hL31 dlaw_609 ?_
  refine call_L_73 (pc := 610) C (k1) (by omega) (wg hG (by decide) (by decide)) (Nat.le_of_ble_eq_true rfl) dlaw_610 (fun x_610 M_610 h_610 => ?_)
  refine V_aload_n (pc := 613) C 2 dlaw_613 rfl rfl ?_
  refine V_aload_n (pc := 614) C 0 dlaw_614 rfl rfl ?_
  refine V_iload_n (pc := 615) C 3 dlaw_615 rfl rfl ?_
  refine V_iconst (v := 1) (pc := 616) C dlaw_616 (by decide) ?_
  refine V_iadd (pc := 617) C dlaw_617 ?_
  refine V_sld (pc := 618) C hX hbl hbA (i + 1) (nI_add i 1) (by omega) hL31 dlaw_618 ?_
  refine call_L_76 (pc := 619) C (k2 _ _ h_610) (by omega) (wg hG (by decide) (by decide)) (Nat.le_of_ble_eq_true rfl) dlaw_619 (fun x_619 M_619 h_619 => ?_)
  obtain ⟨e1, hz⟩ := h_619
  refine V_icmp_eq (tgt := 1097) (pc := 622) C dlaw_622 (by decide) (fun h_622 => ?_) (fun h_622 => ?_)
  · exact go _ hz
  · exact absurd e1 h_622
theorem lc_eachOne (C : CX p s m args c code 4 "CostsAgeLaw" D cy ad 56 A R d cells slots) (hd : 48 ≤ d) (hX : va_X b L xs s s.heap) (hbl : b < s.heap.size) (hbA : ¬ A b) (hL31 : L < 2 ^ 31) {i : Nat} (hi : i + 6 ≤ L) {M : wS} (h : RZ M) (go : ∀ M', RZ M' → V p l e R s m args below meth c 4 D cy ad 56 A cells slots Q 1097 [(0, .ref b), (1, .ref (ad 0 0)), (2, .ref (ad 30 0)), (3, .int (nI i))] [] M') : V p l e R s m args below meth c 4 D cy ad 56 A cells slots Q 627 [(0, .ref b), (1, .ref (ad 0 0)), (2, .ref (ad 30 0)), (3, .int (nI i))] [] M := by
  have hG : 56 ≤ 56 := Nat.le_refl 56
  obtain ⟨Q1, k1, k2⟩ := p_eachOne (l := l) (D := D) (cy := cy) (ad := ad) (d := d - 1) hG (by omega) h
  refine V_aload_n (pc := 627) C 1 dlaw_627 rfl rfl ?_
  refine call_L_77 (pc := 628) C (k1) (by omega) (wg hG (by decide) (by decide)) (Nat.le_of_ble_eq_true rfl) dlaw_628 (fun x_628 M_628 h_628 => ?_)
  refine V_aload_n (pc := 631) C 2 dlaw_631 rfl rfl ?_
  refine call_L_80 (pc := 632) C (k2 _ _ h_628) (by omega) (wg hG (by decide) (by decide)) (Nat.le_of_ble_eq_true rfl) dlaw_632 (fun x_632 M_632 h_632 => ?_)
  obtain ⟨e1, hz⟩ := h_632
  refine V_icmp_eq (tgt := 1097) (pc := 635) C dlaw_635 (by decide) (fun h_635 => ?_) (fun h_635 => ?_)
  · exact go _ hz
  · exact absurd e1 h_635
theorem lc_gain (C : CX p s m args c code 4 "CostsAgeLaw" D cy ad 56 A R d cells slots) (hd : 48 ≤ d) (hX : va_X b L xs s s.heap) (hbl : b < s.heap.size) (hbA : ¬ A b) (hL31 : L < 2 ^ 31) {i : Nat} (hi : i + 6 ≤ L) {M : wS} (h : RZ M) (go : ∀ M', RZ M' → V p l e R s m args below meth c 4 D cy ad 56 A cells slots Q 1097 [(0, .ref b), (1, .ref (ad 0 0)), (2, .ref (ad 30 0)), (3, .int (nI i))] [] M') : V p l e R s m args below meth c 4 D cy ad 56 A cells slots Q 640 [(0, .ref b), (1, .ref (ad 0 0)), (2, .ref (ad 30 0)), (3, .int (nI i))] [] M := by
  have hG : 56 ≤ 56 := Nat.le_refl 56
  obtain ⟨Q1, k1, k2⟩ := p_gain (l := l) (D := D) (cy := cy) (ad := ad) (d := d - 1) hG (by omega) h (xs (i + 1)) (xs (i + 2))
  refine V_aload_n (pc := 640) C 1 dlaw_640 rfl rfl ?_
  refine V_aload_n (pc := 641) C 0 dlaw_641 rfl rfl ?_
  refine V_iload_n (pc := 642) C 3 dlaw_642 rfl rfl ?_
  refine V_iconst (v := 1) (pc := 643) C dlaw_643 (by decide) ?_
  refine V_iadd (pc := 644) C dlaw_644 ?_
  refine V_sld (pc := 645) C hX hbl hbA (i + 1) (nI_add i 1) (by omega) hL31 dlaw_645 ?_
  refine V_aload_n (pc := 646) C 0 dlaw_646 rfl rfl ?_
  refine V_iload_n (pc := 647) C 3 dlaw_647 rfl rfl ?_
  refine V_iconst (v := 2) (pc := 648) C dlaw_648 (by decide) ?_
  refine V_iadd (pc := 649) C dlaw_649 ?_
  refine V_sld (pc := 650) C hX hbl hbA (i + 2) (nI_add i 2) (by omega) hL31 dlaw_650 ?_
  refine call_L_81 (pc := 651) C (k1) (by omega) (wg hG (by decide) (by decide)) (Nat.le_of_ble_eq_true rfl) dlaw_651 (fun x_651 M_651 h_651 => ?_)
  refine V_aload_n (pc := 654) C 2 dlaw_654 rfl rfl ?_
  refine V_aload_n (pc := 655) C 0 dlaw_655 rfl rfl ?_
  refine V_iload_n (pc := 656) C 3 dlaw_656 rfl rfl ?_
  refine V_iconst (v := 1) (pc := 657) C dlaw_657 (by decide) ?_
  refine V_iadd (pc := 658) C dlaw_658 ?_
  refine V_sld (pc := 659) C hX hbl hbA (i + 1) (nI_add i 1) (by omega) hL31 dlaw_659 ?_
  refine V_aload_n (pc := 660) C 0 dlaw_660 rfl rfl ?_
  refine V_iload_n (pc := 661) C 3 dlaw_661 rfl rfl ?_
  refine V_iconst (v := 2) (pc := 662) C dlaw_662 (by decide) ?_
  refine V_iadd (pc := 663) C dlaw_663 ?_
  refine V_sld (pc := 664) C hX hbl hbA (i + 2) (nI_add i 2) (by omega) hL31 dlaw_664 ?_
  refine call_L_85 (pc := 665) C (k2 _ _ h_651) (by omega) (wg hG (by decide) (by decide)) (Nat.le_of_ble_eq_true rfl) dlaw_665 (fun x_665 M_665 h_665 => ?_)
  obtain ⟨e1, hz⟩ := h_665
  refine V_lcmp (pc := 668) C dlaw_668 ?_
  refine V_if_eq (tgt := 1097) (pc := 669) C dlaw_669 (by decide) (fun h_669 => ?_) (fun h_669 => ?_)
  · exact go _ hz
  · exact absurd ((lg_cmp_eq _ _).mpr e1) h_669
theorem lc_year (C : CX p s m args c code 4 "CostsAgeLaw" D cy ad 56 A R d cells slots) (hd : 48 ≤ d) (hX : va_X b L xs s s.heap) (hbl : b < s.heap.size) (hbA : ¬ A b) (hL31 : L < 2 ^ 31) {i : Nat} (hi : i + 6 ≤ L) {M : wS} (h : RZ M) (go : ∀ M', RZ M' → V p l e R s m args below meth c 4 D cy ad 56 A cells slots Q 1097 [(0, .ref b), (1, .ref (ad 0 0)), (2, .ref (ad 30 0)), (3, .int (nI i))] [] M') : V p l e R s m args below meth c 4 D cy ad 56 A cells slots Q 674 [(0, .ref b), (1, .ref (ad 0 0)), (2, .ref (ad 30 0)), (3, .int (nI i))] [] M := by
  have hG : 56 ≤ 56 := Nat.le_refl 56
  obtain ⟨Q1, k1, k2⟩ := p_year (l := l) (D := D) (cy := cy) (ad := ad) (d := d - 1) hG (by omega) h
  refine V_aload_n (pc := 674) C 1 dlaw_674 rfl rfl ?_
  refine call_L_86 (pc := 675) C (k1) (by omega) (wg hG (by decide) (by decide)) (Nat.le_of_ble_eq_true rfl) dlaw_675 (fun x_675 M_675 h_675 => ?_)
  refine V_aload_n (pc := 678) C 2 dlaw_678 rfl rfl ?_
  refine call_L_89 (pc := 679) C (k2 _ _ h_675) (by omega) (wg hG (by decide) (by decide)) (Nat.le_of_ble_eq_true rfl) dlaw_679 (fun x_679 M_679 h_679 => ?_)
  obtain ⟨e1, hz⟩ := h_679
  refine V_icmp_eq (tgt := 1097) (pc := 682) C dlaw_682 (by decide) (fun h_682 => ?_) (fun h_682 => ?_)
  · exact go _ hz
  · exact absurd e1 h_682
theorem lc_rest (C : CX p s m args c code 4 "CostsAgeLaw" D cy ad 56 A R d cells slots) (hd : 48 ≤ d) (hX : va_X b L xs s s.heap) (hbl : b < s.heap.size) (hbA : ¬ A b) (hL31 : L < 2 ^ 31) {i : Nat} (hi : i + 6 ≤ L) {M : wS} (h : RZ M) (go : ∀ M', RZ M' → V p l e R s m args below meth c 4 D cy ad 56 A cells slots Q 1097 [(0, .ref b), (1, .ref (ad 0 0)), (2, .ref (ad 30 0)), (3, .int (nI i))] [] M') : V p l e R s m args below meth c 4 D cy ad 56 A cells slots Q 687 [(0, .ref b), (1, .ref (ad 0 0)), (2, .ref (ad 30 0)), (3, .int (nI i))] [] M := by
  have hG : 56 ≤ 56 := Nat.le_refl 56
  obtain ⟨Q1, k1, k2⟩ := p_rest (l := l) (D := D) (cy := cy) (ad := ad) (d := d - 1) hG (by omega) h (xs (i + 1))
  refine V_aload_n (pc := 687) C 1 dlaw_687 rfl rfl ?_
  refine V_aload_n (pc := 688) C 0 dlaw_688 rfl rfl ?_
  refine V_iload_n (pc := 689) C 3 dlaw_689 rfl rfl ?_
  refine V_iconst (v := 1) (pc := 690) C dlaw_690 (by decide) ?_
  refine V_iadd (pc := 691) C dlaw_691 ?_
  refine V_sld (pc := 692) C hX hbl hbA (i + 1) (nI_add i 1) (by omega) hL31 dlaw_692 ?_
  refine call_L_90 (pc := 693) C (k1) (by omega) (wg hG (by decide) (by decide)) (Nat.le_of_ble_eq_true rfl) dlaw_693 (fun x_693 M_693 h_693 => ?_)
  refine V_aload_n (pc := 696) C 2 dlaw_696 rfl rfl ?_
  refine V_aload_n (pc := 697) C 0 dlaw_697 rfl rfl ?_
  refine V_iload_n (pc := 698) C 3 dlaw_698 rfl rfl ?_
  refine V_iconst (v := 1) (pc := 699) C dlaw_699 (by decide) ?_
  refine V_iadd (pc := 700) C dlaw_700 ?_
  refine V_sld (pc := 701) C hX hbl hbA (i + 1) (nI_add i 1) (by omega) hL31 dlaw_701 ?_
  refine call_L_93 (pc := 702) C (k2 _ _ h_693) (by omega) (wg hG (by decide) (by decide)) (Nat.le_of_ble_eq_true rfl) dlaw_702 (fun x_702 M_702 h_702 => ?_)
  obtain ⟨e1, hz⟩ := h_702
  refine V_icmp_eq (tgt := 1097) (pc := 705) C dlaw_705 (by decide) (fun h_705 => ?_) (fun h_705 => ?_)
  · exact go _ hz
  · exact absurd e1 h_705
theorem lc_lies (C : CX p s m args c code 4 "CostsAgeLaw" D cy ad 56 A R d cells slots) (hd : 48 ≤ d) (hX : va_X b L xs s s.heap) (hbl : b < s.heap.size) (hbA : ¬ A b) (hL31 : L < 2 ^ 31) {i : Nat} (hi : i + 6 ≤ L) {M : wS} (h : RZ M) (go : ∀ M', RZ M' → V p l e R s m args below meth c 4 D cy ad 56 A cells slots Q 1097 [(0, .ref b), (1, .ref (ad 0 0)), (2, .ref (ad 30 0)), (3, .int (nI i))] [] M') : V p l e R s m args below meth c 4 D cy ad 56 A cells slots Q 710 [(0, .ref b), (1, .ref (ad 0 0)), (2, .ref (ad 30 0)), (3, .int (nI i))] [] M := by
  have hG : 56 ≤ 56 := Nat.le_refl 56
  obtain ⟨Q1, k1, k2⟩ := p_lies (l := l) (D := D) (cy := cy) (ad := ad) (d := d - 1) hG (by omega) h (xs (i + 1))
  refine V_aload_n (pc := 710) C 1 dlaw_710 rfl rfl ?_
  refine V_aload_n (pc := 711) C 0 dlaw_711 rfl rfl ?_
  refine V_iload_n (pc := 712) C 3 dlaw_712 rfl rfl ?_
  refine V_iconst (v := 1) (pc := 713) C dlaw_713 (by decide) ?_
  refine V_iadd (pc := 714) C dlaw_714 ?_
  refine V_sld (pc := 715) C hX hbl hbA (i + 1) (nI_add i 1) (by omega) hL31 dlaw_715 ?_
  refine call_L_94 (pc := 716) C (k1) (by omega) (wg hG (by decide) (by decide)) (Nat.le_of_ble_eq_true rfl) dlaw_716 (fun x_716 M_716 h_716 => ?_)
  refine V_aload_n (pc := 719) C 2 dlaw_719 rfl rfl ?_
  refine V_aload_n (pc := 720) C 0 dlaw_720 rfl rfl ?_
  refine V_iload_n (pc := 721) C 3 dlaw_721 rfl rfl ?_
  refine V_iconst (v := 1) (pc := 722) C dlaw_722 (by decide) ?_
  refine V_iadd (pc := 723) C dlaw_723 ?_
  refine V_sld (pc := 724) C hX hbl hbA (i + 1) (nI_add i 1) (by omega) hL31 dlaw_724 ?_
  refine call_L_97 (pc := 725) C (k2 _ _ h_716) (by omega) (wg hG (by decide) (by decide)) (Nat.le_of_ble_eq_true rfl) dlaw_725 (fun x_725 M_725 h_725 => ?_)
  obtain ⟨e1, hz⟩ := h_725
  refine V_icmp_eq (tgt := 1097) (pc := 728) C dlaw_728 (by decide) (fun h_728 => ?_) (fun h_728 => ?_)
  · exact go _ hz
  · exact absurd e1 h_728
theorem lc_judge (C : CX p s m args c code 4 "CostsAgeLaw" D cy ad 56 A R d cells slots) (hd : 48 ≤ d) (hX : va_X b L xs s s.heap) (hbl : b < s.heap.size) (hbA : ¬ A b) (hL31 : L < 2 ^ 31) {i : Nat} (hi : i + 6 ≤ L) {M : wS} (h : RZ M) (go : ∀ M', RZ M' → V p l e R s m args below meth c 4 D cy ad 56 A cells slots Q 1097 [(0, .ref b), (1, .ref (ad 0 0)), (2, .ref (ad 30 0)), (3, .int (nI i))] [] M') : V p l e R s m args below meth c 4 D cy ad 56 A cells slots Q 733 [(0, .ref b), (1, .ref (ad 0 0)), (2, .ref (ad 30 0)), (3, .int (nI i))] [] M := by
  have hG : 56 ≤ 56 := Nat.le_refl 56
  obtain ⟨Q1, k1, k2⟩ := p_judge (l := l) (D := D) (cy := cy) (ad := ad) (d := d - 1) hG (by omega) h (xs (i + 1)) (xs (i + 2))
  refine V_aload_n (pc := 733) C 1 dlaw_733 rfl rfl ?_
  refine V_aload_n (pc := 734) C 0 dlaw_734 rfl rfl ?_
  refine V_iload_n (pc := 735) C 3 dlaw_735 rfl rfl ?_
  refine V_iconst (v := 1) (pc := 736) C dlaw_736 (by decide) ?_
  refine V_iadd (pc := 737) C dlaw_737 ?_
  refine V_sld (pc := 738) C hX hbl hbA (i + 1) (nI_add i 1) (by omega) hL31 dlaw_738 ?_
  refine V_aload_n (pc := 739) C 0 dlaw_739 rfl rfl ?_
  refine V_iload_n (pc := 740) C 3 dlaw_740 rfl rfl ?_
  refine V_iconst (v := 2) (pc := 741) C dlaw_741 (by decide) ?_
  refine V_iadd (pc := 742) C dlaw_742 ?_
  refine V_sld (pc := 743) C hX hbl hbA (i + 2) (nI_add i 2) (by omega) hL31 dlaw_743 ?_
  refine call_L_98 (pc := 744) C (k1) (by omega) (wg hG (by decide) (by decide)) (Nat.le_of_ble_eq_true rfl) dlaw_744 (fun x_744 M_744 h_744 => ?_)
  refine V_aload_n (pc := 747) C 2 dlaw_747 rfl rfl ?_
  refine V_aload_n (pc := 748) C 0 dlaw_748 rfl rfl ?_
  refine V_iload_n (pc := 749) C 3 dlaw_749 rfl rfl ?_
  refine V_iconst (v := 1) (pc := 750) C dlaw_750 (by decide) ?_
  refine V_iadd (pc := 751) C dlaw_751 ?_
  refine V_sld (pc := 752) C hX hbl hbA (i + 1) (nI_add i 1) (by omega) hL31 dlaw_752 ?_
  refine V_aload_n (pc := 753) C 0 dlaw_753 rfl rfl ?_
  refine V_iload_n (pc := 754) C 3 dlaw_754 rfl rfl ?_
  refine V_iconst (v := 2) (pc := 755) C dlaw_755 (by decide) ?_
  refine V_iadd (pc := 756) C dlaw_756 ?_
  refine V_sld (pc := 757) C hX hbl hbA (i + 2) (nI_add i 2) (by omega) hL31 dlaw_757 ?_
  refine call_L_101 (pc := 758) C (k2 _ _ h_744) (by omega) (wg hG (by decide) (by decide)) (Nat.le_of_ble_eq_true rfl) dlaw_758 (fun x_758 M_758 h_758 => ?_)
  obtain ⟨e1, hz⟩ := h_758
  refine V_icmp_eq (tgt := 1097) (pc := 761) C dlaw_761 (by decide) (fun h_761 => ?_) (fun h_761 => ?_)
  · exact go _ hz
  · exact absurd e1 h_761
theorem lc_drawn (C : CX p s m args c code 4 "CostsAgeLaw" D cy ad 56 A R d cells slots) (hd : 48 ≤ d) (hX : va_X b L xs s s.heap) (hbl : b < s.heap.size) (hbA : ¬ A b) (hL31 : L < 2 ^ 31) {i : Nat} (hi : i + 6 ≤ L) {M : wS} (h : RZ M) (go : ∀ M', RZ M' → V p l e R s m args below meth c 4 D cy ad 56 A cells slots Q 1097 [(0, .ref b), (1, .ref (ad 0 0)), (2, .ref (ad 30 0)), (3, .int (nI i))] [] M') : V p l e R s m args below meth c 4 D cy ad 56 A cells slots Q 766 [(0, .ref b), (1, .ref (ad 0 0)), (2, .ref (ad 30 0)), (3, .int (nI i))] [] M := by
  have hG : 56 ≤ 56 := Nat.le_refl 56
  obtain ⟨Q1, k1, k2⟩ := p_drawn (l := l) (D := D) (cy := cy) (ad := ad) (d := d - 1) hG (by omega) h (xs (i + 1))
  refine V_aload_n (pc := 766) C 1 dlaw_766 rfl rfl ?_
  refine V_aload_n (pc := 767) C 0 dlaw_767 rfl rfl ?_
  refine V_iload_n (pc := 768) C 3 dlaw_768 rfl rfl ?_
  refine V_iconst (v := 1) (pc := 769) C dlaw_769 (by decide) ?_
  refine V_iadd (pc := 770) C dlaw_770 ?_
  refine V_sld (pc := 771) C hX hbl hbA (i + 1) (nI_add i 1) (by omega) hL31 dlaw_771 ?_
  refine call_L_102 (pc := 772) C (k1) (by omega) (wg hG (by decide) (by decide)) (Nat.le_of_ble_eq_true rfl) dlaw_772 (fun x_772 M_772 h_772 => ?_)
  refine V_aload_n (pc := 775) C 2 dlaw_775 rfl rfl ?_
  refine V_aload_n (pc := 776) C 0 dlaw_776 rfl rfl ?_
  refine V_iload_n (pc := 777) C 3 dlaw_777 rfl rfl ?_
  refine V_iconst (v := 1) (pc := 778) C dlaw_778 (by decide) ?_
  refine V_iadd (pc := 779) C dlaw_779 ?_
  refine V_sld (pc := 780) C hX hbl hbA (i + 1) (nI_add i 1) (by omega) hL31 dlaw_780 ?_
  refine call_L_105 (pc := 781) C (k2 _ _ h_772) (by omega) (wg hG (by decide) (by decide)) (Nat.le_of_ble_eq_true rfl) dlaw_781 (fun x_781 M_781 h_781 => ?_)
  obtain ⟨e1, hz⟩ := h_781
  refine V_icmp_eq (tgt := 1097) (pc := 784) C dlaw_784 (by decide) (fun h_784 => ?_) (fun h_784 => ?_)
  · exact go _ hz
  · exact absurd e1 h_784
theorem lc_mean (C : CX p s m args c code 4 "CostsAgeLaw" D cy ad 56 A R d cells slots) (hd : 48 ≤ d) (hX : va_X b L xs s s.heap) (hbl : b < s.heap.size) (hbA : ¬ A b) (hL31 : L < 2 ^ 31) {i : Nat} (hi : i + 6 ≤ L) {M : wS} (h : RZ M) (go : ∀ M', RZ M' → V p l e R s m args below meth c 4 D cy ad 56 A cells slots Q 1097 [(0, .ref b), (1, .ref (ad 0 0)), (2, .ref (ad 30 0)), (3, .int (nI i))] [] M') : V p l e R s m args below meth c 4 D cy ad 56 A cells slots Q 789 [(0, .ref b), (1, .ref (ad 0 0)), (2, .ref (ad 30 0)), (3, .int (nI i))] [] M := by
  have hG : 56 ≤ 56 := Nat.le_refl 56
  obtain ⟨Q1, k1, k2⟩ := p_mean (l := l) (D := D) (cy := cy) (ad := ad) (d := d - 1) hG (by omega) h (xs (i + 1))
  refine V_aload_n (pc := 789) C 1 dlaw_789 rfl rfl ?_
  refine V_aload_n (pc := 790) C 0 dlaw_790 rfl rfl ?_
  refine V_iload_n (pc := 791) C 3 dlaw_791 rfl rfl ?_
  refine V_iconst (v := 1) (pc := 792) C dlaw_792 (by decide) ?_
  refine V_iadd (pc := 793) C dlaw_793 ?_
  refine V_sld (pc := 794) C hX hbl hbA (i + 1) (nI_add i 1) (by omega) hL31 dlaw_794 ?_
  refine call_L_106 (pc := 795) C (k1) (by omega) (wg hG (by decide) (by decide)) (Nat.le_of_ble_eq_true rfl) dlaw_795 (fun x_795 M_795 h_795 => ?_)
  refine V_aload_n (pc := 798) C 2 dlaw_798 rfl rfl ?_
  refine V_aload_n (pc := 799) C 0 dlaw_799 rfl rfl ?_
  refine V_iload_n (pc := 800) C 3 dlaw_800 rfl rfl ?_
  refine V_iconst (v := 1) (pc := 801) C dlaw_801 (by decide) ?_
  refine V_iadd (pc := 802) C dlaw_802 ?_
  refine V_sld (pc := 803) C hX hbl hbA (i + 1) (nI_add i 1) (by omega) hL31 dlaw_803 ?_
  refine call_L_110 (pc := 804) C (k2 _ _ h_795) (by omega) (wg hG (by decide) (by decide)) (Nat.le_of_ble_eq_true rfl) dlaw_804 (fun x_804 M_804 h_804 => ?_)
  obtain ⟨e1, hz⟩ := h_804
  refine V_lcmp (pc := 807) C dlaw_807 ?_
  refine V_if_eq (tgt := 1097) (pc := 808) C dlaw_808 (by decide) (fun h_808 => ?_) (fun h_808 => ?_)
  · exact go _ hz
  · exact absurd ((lg_cmp_eq _ _).mpr e1) h_808
theorem lc_image (C : CX p s m args c code 4 "CostsAgeLaw" D cy ad 56 A R d cells slots) (hd : 48 ≤ d) (hX : va_X b L xs s s.heap) (hbl : b < s.heap.size) (hbA : ¬ A b) (hL31 : L < 2 ^ 31) {i : Nat} (hi : i + 6 ≤ L) {M : wS} (h : RZ M) (go : ∀ M', RZ M' → V p l e R s m args below meth c 4 D cy ad 56 A cells slots Q 1097 [(0, .ref b), (1, .ref (ad 0 0)), (2, .ref (ad 30 0)), (3, .int (nI i))] [] M') : V p l e R s m args below meth c 4 D cy ad 56 A cells slots Q 813 [(0, .ref b), (1, .ref (ad 0 0)), (2, .ref (ad 30 0)), (3, .int (nI i))] [] M := by
  have hG : 56 ≤ 56 := Nat.le_refl 56
  obtain ⟨Q1, k1, k2⟩ := p_image (l := l) (D := D) (cy := cy) (ad := ad) (d := d - 1) hG (by omega) h
  refine V_aload_n (pc := 813) C 1 dlaw_813 rfl rfl ?_
  refine call_L_111 (pc := 814) C (k1) (by omega) (wg hG (by decide) (by decide)) (Nat.le_of_ble_eq_true rfl) dlaw_814 (fun x_814 M_814 h_814 => ?_)
  refine V_aload_n (pc := 817) C 2 dlaw_817 rfl rfl ?_
  refine call_L_114 (pc := 818) C (k2 _ _ h_814) (by omega) (wg hG (by decide) (by decide)) (Nat.le_of_ble_eq_true rfl) dlaw_818 (fun x_818 M_818 h_818 => ?_)
  obtain ⟨e1, hz⟩ := h_818
  refine V_icmp_eq (tgt := 1097) (pc := 821) C dlaw_821 (by decide) (fun h_821 => ?_) (fun h_821 => ?_)
  · exact go _ hz
  · exact absurd e1 h_821
theorem lc_back (C : CX p s m args c code 4 "CostsAgeLaw" D cy ad 56 A R d cells slots) (hd : 48 ≤ d) (hX : va_X b L xs s s.heap) (hbl : b < s.heap.size) (hbA : ¬ A b) (hL31 : L < 2 ^ 31) {i : Nat} (hi : i + 6 ≤ L) {M : wS} (h : RZ M) (go : ∀ M', RZ M' → V p l e R s m args below meth c 4 D cy ad 56 A cells slots Q 1097 [(0, .ref b), (1, .ref (ad 0 0)), (2, .ref (ad 30 0)), (3, .int (nI i))] [] M') : V p l e R s m args below meth c 4 D cy ad 56 A cells slots Q 826 [(0, .ref b), (1, .ref (ad 0 0)), (2, .ref (ad 30 0)), (3, .int (nI i))] [] M := by
  have hG : 56 ≤ 56 := Nat.le_refl 56
  obtain ⟨Q1, k1, k2⟩ := p_back (l := l) (D := D) (cy := cy) (ad := ad) (d := d - 1) hG (by omega) h
  refine V_aload_n (pc := 826) C 1 dlaw_826 rfl rfl ?_
  refine call_L_115 (pc := 827) C (k1) (by omega) (wg hG (by decide) (by decide)) (Nat.le_of_ble_eq_true rfl) dlaw_827 (fun x_827 M_827 h_827 => ?_)
  refine V_aload_n (pc := 830) C 2 dlaw_830 rfl rfl ?_
  refine call_L_118 (pc := 831) C (k2 _ _ h_827) (by omega) (wg hG (by decide) (by decide)) (Nat.le_of_ble_eq_true rfl) dlaw_831 (fun x_831 M_831 h_831 => ?_)
  obtain ⟨e1, hz⟩ := h_831
  refine V_icmp_eq (tgt := 1097) (pc := 834) C dlaw_834 (by decide) (fun h_834 => ?_) (fun h_834 => ?_)
  · exact go _ hz
  · exact absurd e1 h_834
theorem lc_count (C : CX p s m args c code 4 "CostsAgeLaw" D cy ad 56 A R d cells slots) (hd : 48 ≤ d) (hX : va_X b L xs s s.heap) (hbl : b < s.heap.size) (hbA : ¬ A b) (hL31 : L < 2 ^ 31) {i : Nat} (hi : i + 6 ≤ L) {M : wS} (h : RZ M) (go : ∀ M', RZ M' → V p l e R s m args below meth c 4 D cy ad 56 A cells slots Q 1097 [(0, .ref b), (1, .ref (ad 0 0)), (2, .ref (ad 30 0)), (3, .int (nI i))] [] M') : V p l e R s m args below meth c 4 D cy ad 56 A cells slots Q 839 [(0, .ref b), (1, .ref (ad 0 0)), (2, .ref (ad 30 0)), (3, .int (nI i))] [] M := by
  have hG : 56 ≤ 56 := Nat.le_refl 56
  obtain ⟨Q1, k1, k2⟩ := p_count (l := l) (D := D) (cy := cy) (ad := ad) (d := d - 1) hG (by omega) h (xs (i + 1))
  refine V_aload_n (pc := 839) C 1 dlaw_839 rfl rfl ?_
  refine V_aload_n (pc := 840) C 0 dlaw_840 rfl rfl ?_
  refine V_iload_n (pc := 841) C 3 dlaw_841 rfl rfl ?_
  refine V_iconst (v := 1) (pc := 842) C dlaw_842 (by decide) ?_
  refine V_iadd (pc := 843) C dlaw_843 ?_
  refine V_sld (pc := 844) C hX hbl hbA (i + 1) (nI_add i 1) (by omega) hL31 dlaw_844 ?_
  refine call_L_119 (pc := 845) C (k1) (by omega) (wg hG (by decide) (by decide)) (Nat.le_of_ble_eq_true rfl) dlaw_845 (fun x_845 M_845 h_845 => ?_)
  refine V_aload_n (pc := 848) C 2 dlaw_848 rfl rfl ?_
  refine V_aload_n (pc := 849) C 0 dlaw_849 rfl rfl ?_
  refine V_iload_n (pc := 850) C 3 dlaw_850 rfl rfl ?_
  refine V_iconst (v := 1) (pc := 851) C dlaw_851 (by decide) ?_
  refine V_iadd (pc := 852) C dlaw_852 ?_
  refine V_sld (pc := 853) C hX hbl hbA (i + 1) (nI_add i 1) (by omega) hL31 dlaw_853 ?_
  refine call_L_122 (pc := 854) C (k2 _ _ h_845) (by omega) (wg hG (by decide) (by decide)) (Nat.le_of_ble_eq_true rfl) dlaw_854 (fun x_854 M_854 h_854 => ?_)
  obtain ⟨e1, hz⟩ := h_854
  refine V_icmp_eq (tgt := 1097) (pc := 857) C dlaw_857 (by decide) (fun h_857 => ?_) (fun h_857 => ?_)
  · exact go _ hz
  · exact absurd e1 h_857
theorem lc_sheet (C : CX p s m args c code 4 "CostsAgeLaw" D cy ad 56 A R d cells slots) (hd : 48 ≤ d) (hX : va_X b L xs s s.heap) (hbl : b < s.heap.size) (hbA : ¬ A b) (hL31 : L < 2 ^ 31) {i : Nat} (hi : i + 6 ≤ L) {M : wS} (h : RZ M) (go : ∀ M', RZ M' → V p l e R s m args below meth c 4 D cy ad 56 A cells slots Q 1097 [(0, .ref b), (1, .ref (ad 0 0)), (2, .ref (ad 30 0)), (3, .int (nI i))] [] M') : V p l e R s m args below meth c 4 D cy ad 56 A cells slots Q 862 [(0, .ref b), (1, .ref (ad 0 0)), (2, .ref (ad 30 0)), (3, .int (nI i))] [] M := by
  have hG : 56 ≤ 56 := Nat.le_refl 56
  obtain ⟨Q1, k1, k2⟩ := p_sheet (l := l) (D := D) (cy := cy) (ad := ad) (d := d - 1) hG (by omega) h (xs (i + 1)) (xs (i + 2)) (xs (i + 3))
  refine V_aload_n (pc := 862) C 1 dlaw_862 rfl rfl ?_
  refine V_aload_n (pc := 863) C 0 dlaw_863 rfl rfl ?_
  refine V_iload_n (pc := 864) C 3 dlaw_864 rfl rfl ?_
  refine V_iconst (v := 1) (pc := 865) C dlaw_865 (by decide) ?_
  refine V_iadd (pc := 866) C dlaw_866 ?_
  refine V_sld (pc := 867) C hX hbl hbA (i + 1) (nI_add i 1) (by omega) hL31 dlaw_867 ?_
  refine V_aload_n (pc := 868) C 0 dlaw_868 rfl rfl ?_
  refine V_iload_n (pc := 869) C 3 dlaw_869 rfl rfl ?_
  refine V_iconst (v := 2) (pc := 870) C dlaw_870 (by decide) ?_
  refine V_iadd (pc := 871) C dlaw_871 ?_
  refine V_sld (pc := 872) C hX hbl hbA (i + 2) (nI_add i 2) (by omega) hL31 dlaw_872 ?_
  refine V_aload_n (pc := 873) C 0 dlaw_873 rfl rfl ?_
  refine V_iload_n (pc := 874) C 3 dlaw_874 rfl rfl ?_
  refine V_iconst (v := 3) (pc := 875) C dlaw_875 (by decide) ?_
  refine V_iadd (pc := 876) C dlaw_876 ?_
  refine V_sld (pc := 877) C hX hbl hbA (i + 3) (nI_add i 3) (by omega) hL31 dlaw_877 ?_
  refine call_L_123 (pc := 878) C (k1) (by omega) (wg hG (by decide) (by decide)) (Nat.le_of_ble_eq_true rfl) dlaw_878 (fun x_878 M_878 h_878 => ?_)
  refine V_aload_n (pc := 881) C 2 dlaw_881 rfl rfl ?_
  refine V_aload_n (pc := 882) C 0 dlaw_882 rfl rfl ?_
  refine V_iload_n (pc := 883) C 3 dlaw_883 rfl rfl ?_
  refine V_iconst (v := 1) (pc := 884) C dlaw_884 (by decide) ?_
  refine V_iadd (pc := 885) C dlaw_885 ?_
  refine V_sld (pc := 886) C hX hbl hbA (i + 1) (nI_add i 1) (by omega) hL31 dlaw_886 ?_
  refine V_aload_n (pc := 887) C 0 dlaw_887 rfl rfl ?_
  refine V_iload_n (pc := 888) C 3 dlaw_888 rfl rfl ?_
  refine V_iconst (v := 2) (pc := 889) C dlaw_889 (by decide) ?_
  refine V_iadd (pc := 890) C dlaw_890 ?_
  refine V_sld (pc := 891) C hX hbl hbA (i + 2) (nI_add i 2) (by omega) hL31 dlaw_891 ?_
  refine V_aload_n (pc := 892) C 0 dlaw_892 rfl rfl ?_
  refine V_iload_n (pc := 893) C 3 dlaw_893 rfl rfl ?_
  refine V_iconst (v := 3) (pc := 894) C dlaw_894 (by decide) ?_
  refine V_iadd (pc := 895) C dlaw_895 ?_
  refine V_sld (pc := 896) C hX hbl hbA (i + 3) (nI_add i 3) (by omega) hL31 dlaw_896 ?_
  refine call_L_126 (pc := 897) C (k2 _ _ h_878) (by omega) (wg hG (by decide) (by decide)) (Nat.le_of_ble_eq_true rfl) dlaw_897 (fun x_897 M_897 h_897 => ?_)
  obtain ⟨e1, hz⟩ := h_897
  refine V_icmp_eq (tgt := 1097) (pc := 900) C dlaw_900 (by decide) (fun h_900 => ?_) (fun h_900 => ?_)
  · exact go _ hz
  · exact absurd e1 h_900
theorem lc_cell (C : CX p s m args c code 4 "CostsAgeLaw" D cy ad 56 A R d cells slots) (hd : 48 ≤ d) (hX : va_X b L xs s s.heap) (hbl : b < s.heap.size) (hbA : ¬ A b) (hL31 : L < 2 ^ 31) {i : Nat} (hi : i + 6 ≤ L) {M : wS} (h : RZ M) (go : ∀ M', RZ M' → V p l e R s m args below meth c 4 D cy ad 56 A cells slots Q 1097 [(0, .ref b), (1, .ref (ad 0 0)), (2, .ref (ad 30 0)), (3, .int (nI i))] [] M') : V p l e R s m args below meth c 4 D cy ad 56 A cells slots Q 905 [(0, .ref b), (1, .ref (ad 0 0)), (2, .ref (ad 30 0)), (3, .int (nI i))] [] M := by
  have hG : 56 ≤ 56 := Nat.le_refl 56
  obtain ⟨Q1, k1, k2⟩ := p_cell (l := l) (D := D) (cy := cy) (ad := ad) (d := d - 1) hG (by omega) h (xs (i + 1)) (xs (i + 2)) (xs (i + 3))
  refine V_aload_n (pc := 905) C 1 dlaw_905 rfl rfl ?_
  refine V_aload_n (pc := 906) C 0 dlaw_906 rfl rfl ?_
  refine V_iload_n (pc := 907) C 3 dlaw_907 rfl rfl ?_
  refine V_iconst (v := 1) (pc := 908) C dlaw_908 (by decide) ?_
  refine V_iadd (pc := 909) C dlaw_909 ?_
  refine V_sld (pc := 910) C hX hbl hbA (i + 1) (nI_add i 1) (by omega) hL31 dlaw_910 ?_
  refine V_aload_n (pc := 911) C 0 dlaw_911 rfl rfl ?_
  refine V_iload_n (pc := 912) C 3 dlaw_912 rfl rfl ?_
  refine V_iconst (v := 2) (pc := 913) C dlaw_913 (by decide) ?_
  refine V_iadd (pc := 914) C dlaw_914 ?_
  refine V_sld (pc := 915) C hX hbl hbA (i + 2) (nI_add i 2) (by omega) hL31 dlaw_915 ?_
  refine V_aload_n (pc := 916) C 0 dlaw_916 rfl rfl ?_
  refine V_iload_n (pc := 917) C 3 dlaw_917 rfl rfl ?_
  refine V_iconst (v := 3) (pc := 918) C dlaw_918 (by decide) ?_
  refine V_iadd (pc := 919) C dlaw_919 ?_
  refine V_sld (pc := 920) C hX hbl hbA (i + 3) (nI_add i 3) (by omega) hL31 dlaw_920 ?_
  refine call_L_127 (pc := 921) C (k1) (by omega) (wg hG (by decide) (by decide)) (Nat.le_of_ble_eq_true rfl) dlaw_921 (fun x_921 M_921 h_921 => ?_)
  refine V_aload_n (pc := 924) C 2 dlaw_924 rfl rfl ?_
  refine V_aload_n (pc := 925) C 0 dlaw_925 rfl rfl ?_
  refine V_iload_n (pc := 926) C 3 dlaw_926 rfl rfl ?_
  refine V_iconst (v := 1) (pc := 927) C dlaw_927 (by decide) ?_
  refine V_iadd (pc := 928) C dlaw_928 ?_
  refine V_sld (pc := 929) C hX hbl hbA (i + 1) (nI_add i 1) (by omega) hL31 dlaw_929 ?_
  refine V_aload_n (pc := 930) C 0 dlaw_930 rfl rfl ?_
  refine V_iload_n (pc := 931) C 3 dlaw_931 rfl rfl ?_
  refine V_iconst (v := 2) (pc := 932) C dlaw_932 (by decide) ?_
  refine V_iadd (pc := 933) C dlaw_933 ?_
  refine V_sld (pc := 934) C hX hbl hbA (i + 2) (nI_add i 2) (by omega) hL31 dlaw_934 ?_
  refine V_aload_n (pc := 935) C 0 dlaw_935 rfl rfl ?_
  refine V_iload_n (pc := 936) C 3 dlaw_936 rfl rfl ?_
  refine V_iconst (v := 3) (pc := 937) C dlaw_937 (by decide) ?_
  refine V_iadd (pc := 938) C dlaw_938 ?_
  refine V_sld (pc := 939) C hX hbl hbA (i + 3) (nI_add i 3) (by omega) hL31 dlaw_939 ?_
  refine call_L_130 (pc := 940) C (k2 _ _ h_921) (by omega) (wg hG (by decide) (by decide)) (Nat.le_of_ble_eq_true rfl) dlaw_940 (fun x_940 M_940 h_940 => ?_)
  obtain ⟨e1, hz⟩ := h_940
  refine V_icmp_eq (tgt := 1097) (pc := 943) C dlaw_943 (by decide) (fun h_943 => ?_) (fun h_943 => ?_)
  · exact go _ hz
  · exact absurd e1 h_943
theorem lc_copy (C : CX p s m args c code 4 "CostsAgeLaw" D cy ad 56 A R d cells slots) (hd : 48 ≤ d) (hX : va_X b L xs s s.heap) (hbl : b < s.heap.size) (hbA : ¬ A b) (hL31 : L < 2 ^ 31) {i : Nat} (hi : i + 6 ≤ L) {M : wS} (h : RZ M) (go : ∀ M', RZ M' → V p l e R s m args below meth c 4 D cy ad 56 A cells slots Q 1097 [(0, .ref b), (1, .ref (ad 0 0)), (2, .ref (ad 30 0)), (3, .int (nI i))] [] M') : V p l e R s m args below meth c 4 D cy ad 56 A cells slots Q 948 [(0, .ref b), (1, .ref (ad 0 0)), (2, .ref (ad 30 0)), (3, .int (nI i))] [] M := by
  have hG : 56 ≤ 56 := Nat.le_refl 56
  obtain ⟨Q1, k1, k2⟩ := p_copy (l := l) (D := D) (cy := cy) (ad := ad) (d := d - 1) hG (by omega) h (xs (i + 1)) (xs (i + 2)) (xs (i + 3)) (xs (i + 4)) (xs (i + 5))
  refine V_aload_n (pc := 948) C 1 dlaw_948 rfl rfl ?_
  refine V_aload_n (pc := 949) C 0 dlaw_949 rfl rfl ?_
  refine V_iload_n (pc := 950) C 3 dlaw_950 rfl rfl ?_
  refine V_iconst (v := 1) (pc := 951) C dlaw_951 (by decide) ?_
  refine V_iadd (pc := 952) C dlaw_952 ?_
  refine V_sld (pc := 953) C hX hbl hbA (i + 1) (nI_add i 1) (by omega) hL31 dlaw_953 ?_
  refine V_aload_n (pc := 954) C 0 dlaw_954 rfl rfl ?_
  refine V_iload_n (pc := 955) C 3 dlaw_955 rfl rfl ?_
  refine V_iconst (v := 2) (pc := 956) C dlaw_956 (by decide) ?_
  refine V_iadd (pc := 957) C dlaw_957 ?_
  refine V_sld (pc := 958) C hX hbl hbA (i + 2) (nI_add i 2) (by omega) hL31 dlaw_958 ?_
  refine V_aload_n (pc := 959) C 0 dlaw_959 rfl rfl ?_
  refine V_iload_n (pc := 960) C 3 dlaw_960 rfl rfl ?_
  refine V_iconst (v := 3) (pc := 961) C dlaw_961 (by decide) ?_
  refine V_iadd (pc := 962) C dlaw_962 ?_
  refine V_sld (pc := 963) C hX hbl hbA (i + 3) (nI_add i 3) (by omega) hL31 dlaw_963 ?_
  refine V_aload_n (pc := 964) C 0 dlaw_964 rfl rfl ?_
  refine V_iload_n (pc := 965) C 3 dlaw_965 rfl rfl ?_
  refine V_iconst (v := 4) (pc := 966) C dlaw_966 (by decide) ?_
  refine V_iadd (pc := 967) C dlaw_967 ?_
  refine V_sld (pc := 968) C hX hbl hbA (i + 4) (nI_add i 4) (by omega) hL31 dlaw_968 ?_
  refine V_aload_n (pc := 969) C 0 dlaw_969 rfl rfl ?_
  refine V_iload_n (pc := 970) C 3 dlaw_970 rfl rfl ?_
  refine V_iconst (v := 5) (pc := 971) C dlaw_971 (by decide) ?_
  refine V_iadd (pc := 972) C dlaw_972 ?_
  refine V_sld (pc := 973) C hX hbl hbA (i + 5) (nI_add i 5) (by omega) hL31 dlaw_973 ?_
  refine call_L_131 (pc := 974) C (k1) (by omega) (wg hG (by decide) (by decide)) (Nat.le_of_ble_eq_true rfl) dlaw_974 (fun x_974 M_974 h_974 => ?_)
  refine V_aload_n (pc := 977) C 2 dlaw_977 rfl rfl ?_
  refine V_aload_n (pc := 978) C 0 dlaw_978 rfl rfl ?_
  refine V_iload_n (pc := 979) C 3 dlaw_979 rfl rfl ?_
  refine V_iconst (v := 1) (pc := 980) C dlaw_980 (by decide) ?_
  refine V_iadd (pc := 981) C dlaw_981 ?_
  refine V_sld (pc := 982) C hX hbl hbA (i + 1) (nI_add i 1) (by omega) hL31 dlaw_982 ?_
  refine V_aload_n (pc := 983) C 0 dlaw_983 rfl rfl ?_
  refine V_iload_n (pc := 984) C 3 dlaw_984 rfl rfl ?_
  refine V_iconst (v := 2) (pc := 985) C dlaw_985 (by decide) ?_
  refine V_iadd (pc := 986) C dlaw_986 ?_
  refine V_sld (pc := 987) C hX hbl hbA (i + 2) (nI_add i 2) (by omega) hL31 dlaw_987 ?_
  refine V_aload_n (pc := 988) C 0 dlaw_988 rfl rfl ?_
  refine V_iload_n (pc := 989) C 3 dlaw_989 rfl rfl ?_
  refine V_iconst (v := 3) (pc := 990) C dlaw_990 (by decide) ?_
  refine V_iadd (pc := 991) C dlaw_991 ?_
  refine V_sld (pc := 992) C hX hbl hbA (i + 3) (nI_add i 3) (by omega) hL31 dlaw_992 ?_
  refine V_aload_n (pc := 993) C 0 dlaw_993 rfl rfl ?_
  refine V_iload_n (pc := 994) C 3 dlaw_994 rfl rfl ?_
  refine V_iconst (v := 4) (pc := 995) C dlaw_995 (by decide) ?_
  refine V_iadd (pc := 996) C dlaw_996 ?_
  refine V_sld (pc := 997) C hX hbl hbA (i + 4) (nI_add i 4) (by omega) hL31 dlaw_997 ?_
  refine V_aload_n (pc := 998) C 0 dlaw_998 rfl rfl ?_
  refine V_iload_n (pc := 999) C 3 dlaw_999 rfl rfl ?_
  refine V_iconst (v := 5) (pc := 1000) C dlaw_1000 (by decide) ?_
  refine V_iadd (pc := 1001) C dlaw_1001 ?_
  refine V_sld (pc := 1002) C hX hbl hbA (i + 5) (nI_add i 5) (by omega) hL31 dlaw_1002 ?_
  refine call_L_135 (pc := 1003) C (k2 _ _ h_974) (by omega) (wg hG (by decide) (by decide)) (Nat.le_of_ble_eq_true rfl) dlaw_1003 (fun x_1003 M_1003 h_1003 => ?_)
  obtain ⟨e1, hz⟩ := h_1003
  refine V_icmp_eq (tgt := 1097) (pc := 1006) C dlaw_1006 (by decide) (fun h_1006 => ?_) (fun h_1006 => ?_)
  · exact go _ hz
  · exact absurd e1 h_1006
theorem lc_things (C : CX p s m args c code 4 "CostsAgeLaw" D cy ad 56 A R d cells slots) (hd : 48 ≤ d) (hX : va_X b L xs s s.heap) (hbl : b < s.heap.size) (hbA : ¬ A b) (hL31 : L < 2 ^ 31) {i : Nat} (hi : i + 6 ≤ L) {M : wS} (h : RZ M) (go : ∀ M', RZ M' → V p l e R s m args below meth c 4 D cy ad 56 A cells slots Q 1097 [(0, .ref b), (1, .ref (ad 0 0)), (2, .ref (ad 30 0)), (3, .int (nI i))] [] M') : V p l e R s m args below meth c 4 D cy ad 56 A cells slots Q 1011 [(0, .ref b), (1, .ref (ad 0 0)), (2, .ref (ad 30 0)), (3, .int (nI i))] [] M := by
  have hG : 56 ≤ 56 := Nat.le_refl 56
  obtain ⟨Q1, k1, k2⟩ := p_things (l := l) (D := D) (cy := cy) (ad := ad) (d := d - 1) hG (by omega) h (xs (i + 1)) (xs (i + 2)) (xs (i + 3)) (xs (i + 4))
  refine V_aload_n (pc := 1011) C 1 dlaw_1011 rfl rfl ?_
  refine V_aload_n (pc := 1012) C 0 dlaw_1012 rfl rfl ?_
  refine V_iload_n (pc := 1013) C 3 dlaw_1013 rfl rfl ?_
  refine V_iconst (v := 1) (pc := 1014) C dlaw_1014 (by decide) ?_
  refine V_iadd (pc := 1015) C dlaw_1015 ?_
  refine V_sld (pc := 1016) C hX hbl hbA (i + 1) (nI_add i 1) (by omega) hL31 dlaw_1016 ?_
  refine V_aload_n (pc := 1017) C 0 dlaw_1017 rfl rfl ?_
  refine V_iload_n (pc := 1018) C 3 dlaw_1018 rfl rfl ?_
  refine V_iconst (v := 2) (pc := 1019) C dlaw_1019 (by decide) ?_
  refine V_iadd (pc := 1020) C dlaw_1020 ?_
  refine V_sld (pc := 1021) C hX hbl hbA (i + 2) (nI_add i 2) (by omega) hL31 dlaw_1021 ?_
  refine V_aload_n (pc := 1022) C 0 dlaw_1022 rfl rfl ?_
  refine V_iload_n (pc := 1023) C 3 dlaw_1023 rfl rfl ?_
  refine V_iconst (v := 3) (pc := 1024) C dlaw_1024 (by decide) ?_
  refine V_iadd (pc := 1025) C dlaw_1025 ?_
  refine V_sld (pc := 1026) C hX hbl hbA (i + 3) (nI_add i 3) (by omega) hL31 dlaw_1026 ?_
  refine V_aload_n (pc := 1027) C 0 dlaw_1027 rfl rfl ?_
  refine V_iload_n (pc := 1028) C 3 dlaw_1028 rfl rfl ?_
  refine V_iconst (v := 4) (pc := 1029) C dlaw_1029 (by decide) ?_
  refine V_iadd (pc := 1030) C dlaw_1030 ?_
  refine V_sld (pc := 1031) C hX hbl hbA (i + 4) (nI_add i 4) (by omega) hL31 dlaw_1031 ?_
  refine call_L_136 (pc := 1032) C (k1) (by omega) (wg hG (by decide) (by decide)) (Nat.le_of_ble_eq_true rfl) dlaw_1032 (fun x_1032 M_1032 h_1032 => ?_)
  refine V_aload_n (pc := 1035) C 2 dlaw_1035 rfl rfl ?_
  refine V_aload_n (pc := 1036) C 0 dlaw_1036 rfl rfl ?_
  refine V_iload_n (pc := 1037) C 3 dlaw_1037 rfl rfl ?_
  refine V_iconst (v := 1) (pc := 1038) C dlaw_1038 (by decide) ?_
  refine V_iadd (pc := 1039) C dlaw_1039 ?_
  refine V_sld (pc := 1040) C hX hbl hbA (i + 1) (nI_add i 1) (by omega) hL31 dlaw_1040 ?_
  refine V_aload_n (pc := 1041) C 0 dlaw_1041 rfl rfl ?_
  refine V_iload_n (pc := 1042) C 3 dlaw_1042 rfl rfl ?_
  refine V_iconst (v := 2) (pc := 1043) C dlaw_1043 (by decide) ?_
  refine V_iadd (pc := 1044) C dlaw_1044 ?_
  refine V_sld (pc := 1045) C hX hbl hbA (i + 2) (nI_add i 2) (by omega) hL31 dlaw_1045 ?_
  refine V_aload_n (pc := 1046) C 0 dlaw_1046 rfl rfl ?_
  refine V_iload_n (pc := 1047) C 3 dlaw_1047 rfl rfl ?_
  refine V_iconst (v := 3) (pc := 1048) C dlaw_1048 (by decide) ?_
  refine V_iadd (pc := 1049) C dlaw_1049 ?_
  refine V_sld (pc := 1050) C hX hbl hbA (i + 3) (nI_add i 3) (by omega) hL31 dlaw_1050 ?_
  refine V_aload_n (pc := 1051) C 0 dlaw_1051 rfl rfl ?_
  refine V_iload_n (pc := 1052) C 3 dlaw_1052 rfl rfl ?_
  refine V_iconst (v := 4) (pc := 1053) C dlaw_1053 (by decide) ?_
  refine V_iadd (pc := 1054) C dlaw_1054 ?_
  refine V_sld (pc := 1055) C hX hbl hbA (i + 4) (nI_add i 4) (by omega) hL31 dlaw_1055 ?_
  refine call_L_140 (pc := 1056) C (k2 _ _ h_1032) (by omega) (wg hG (by decide) (by decide)) (Nat.le_of_ble_eq_true rfl) dlaw_1056 (fun x_1056 M_1056 h_1056 => ?_)
  obtain ⟨e1, hz⟩ := h_1056
  refine V_icmp_eq (tgt := 1097) (pc := 1059) C dlaw_1059 (by decide) (fun h_1059 => ?_) (fun h_1059 => ?_)
  · exact go _ hz
  · exact absurd e1 h_1059
theorem lc_taken (C : CX p s m args c code 4 "CostsAgeLaw" D cy ad 56 A R d cells slots) (hd : 48 ≤ d) (hX : va_X b L xs s s.heap) (hbl : b < s.heap.size) (hbA : ¬ A b) (hL31 : L < 2 ^ 31) {i : Nat} (hi : i + 6 ≤ L) {M : wS} (h : RZ M) (go : ∀ M', RZ M' → V p l e R s m args below meth c 4 D cy ad 56 A cells slots Q 1097 [(0, .ref b), (1, .ref (ad 0 0)), (2, .ref (ad 30 0)), (3, .int (nI i))] [] M') : V p l e R s m args below meth c 4 D cy ad 56 A cells slots Q 1064 [(0, .ref b), (1, .ref (ad 0 0)), (2, .ref (ad 30 0)), (3, .int (nI i))] [] M := by
  have hG : 56 ≤ 56 := Nat.le_refl 56
  obtain ⟨Q1, k1, k2⟩ := p_taken (l := l) (D := D) (cy := cy) (ad := ad) (d := d - 1) hG (by omega) h (xs (i + 1)) (xs (i + 2))
  refine V_aload_n (pc := 1064) C 1 dlaw_1064 rfl rfl ?_
  refine V_aload_n (pc := 1065) C 0 dlaw_1065 rfl rfl ?_
  refine V_iload_n (pc := 1066) C 3 dlaw_1066 rfl rfl ?_
  refine V_iconst (v := 1) (pc := 1067) C dlaw_1067 (by decide) ?_
  refine V_iadd (pc := 1068) C dlaw_1068 ?_
  refine V_sld (pc := 1069) C hX hbl hbA (i + 1) (nI_add i 1) (by omega) hL31 dlaw_1069 ?_
  refine V_aload_n (pc := 1070) C 0 dlaw_1070 rfl rfl ?_
  refine V_iload_n (pc := 1071) C 3 dlaw_1071 rfl rfl ?_
  refine V_iconst (v := 2) (pc := 1072) C dlaw_1072 (by decide) ?_
  refine V_iadd (pc := 1073) C dlaw_1073 ?_
  refine V_sld (pc := 1074) C hX hbl hbA (i + 2) (nI_add i 2) (by omega) hL31 dlaw_1074 ?_
  refine call_L_141 (pc := 1075) C (k1) (by omega) (wg hG (by decide) (by decide)) (Nat.le_of_ble_eq_true rfl) dlaw_1075 (fun x_1075 M_1075 h_1075 => ?_)
  refine V_aload_n (pc := 1078) C 2 dlaw_1078 rfl rfl ?_
  refine V_aload_n (pc := 1079) C 0 dlaw_1079 rfl rfl ?_
  refine V_iload_n (pc := 1080) C 3 dlaw_1080 rfl rfl ?_
  refine V_iconst (v := 1) (pc := 1081) C dlaw_1081 (by decide) ?_
  refine V_iadd (pc := 1082) C dlaw_1082 ?_
  refine V_sld (pc := 1083) C hX hbl hbA (i + 1) (nI_add i 1) (by omega) hL31 dlaw_1083 ?_
  refine V_aload_n (pc := 1084) C 0 dlaw_1084 rfl rfl ?_
  refine V_iload_n (pc := 1085) C 3 dlaw_1085 rfl rfl ?_
  refine V_iconst (v := 2) (pc := 1086) C dlaw_1086 (by decide) ?_
  refine V_iadd (pc := 1087) C dlaw_1087 ?_
  refine V_sld (pc := 1088) C hX hbl hbA (i + 2) (nI_add i 2) (by omega) hL31 dlaw_1088 ?_
  refine call_L_144 (pc := 1089) C (k2 _ _ h_1075) (by omega) (wg hG (by decide) (by decide)) (Nat.le_of_ble_eq_true rfl) dlaw_1089 (fun x_1089 M_1089 h_1089 => ?_)
  obtain ⟨e1, hz⟩ := h_1089
  refine V_icmp_eq (tgt := 1097) (pc := 1092) C dlaw_1092 (by decide) (fun h_1092 => ?_) (fun h_1092 => ?_)
  · exact go _ hz
  · exact absurd e1 h_1092
end S9f
