/-! the reference's constructor, from where all its rows stand -/
def spM (M : wS) (t : Nat) (a b c d' e f g h : Int32) : wS := mset (mset (mset (mset (mset (mset (mset (mset M 31 0 t a) 31 0 (t + 1) b) 31 0 (t + 2) c) 31 0 (t + 3) d') 31 0 (t + 4) e) 31 0 (t + 5) f) 31 0 (t + 6) g) 31 0 (t + 7) h
def bR (k : Nat) : Int32 := ([115, 101, 114, 118, 101, 115, 32, 115, 105, 122, 101, 32, 60, 32, 56, 32, 111, 114, 32, 57, 32, 60, 32, 97, 103, 101, 32, 59, 32, 97, 100, 100, 115, 32, 48, 32, 59, 32, 103, 97, 105, 110, 115, 32, 118, 97, 108, 117, 101, 32, 59, 32, 32, 32, 32, 32] : List Int32).getD k 0
def SI (M0 : wS) (t : Nat) (M : wS) : Prop := (∀ g i k, g ≠ 31 → M.1 g i k = M0.1 g i k) ∧ ∀ k, k < t → M.1 31 0 k = bR k
theorem SI.sp {M0 M M' : wS} {t : Nat} {a b c d' e f g h : Int32} (s : SI M0 t M) (hM : M' = spM M t a b c d' e f g h) (h0 : a = bR t) (h1 : b = bR (t + 1)) (h2 : c = bR (t + 2)) (h3 : d' = bR (t + 3)) (h4 : e = bR (t + 4)) (h5 : f = bR (t + 5)) (h6 : g = bR (t + 6)) (h7 : h = bR (t + 7)) : SI M0 (t + 8) M' := by
  subst hM
  refine ⟨fun g' i k hg => ?_, fun k hk => ?_⟩
  · unfold spM
    rw [mset_at, if_neg (by omega), mset_at, if_neg (by omega), mset_at, if_neg (by omega), mset_at, if_neg (by omega), mset_at, if_neg (by omega), mset_at, if_neg (by omega), mset_at, if_neg (by omega), mset_at, if_neg (by omega)]
    exact s.1 g' i k hg
  · unfold spM
    rw [mset_at]
    by_cases e7 : k = t + 7
    · rw [if_pos ⟨rfl, rfl, e7⟩, e7]; exact h7
    rw [if_neg (by omega), mset_at]
    by_cases e6 : k = t + 6
    · rw [if_pos ⟨rfl, rfl, e6⟩, e6]; exact h6
    rw [if_neg (by omega), mset_at]
    by_cases e5 : k = t + 5
    · rw [if_pos ⟨rfl, rfl, e5⟩, e5]; exact h5
    rw [if_neg (by omega), mset_at]
    by_cases e4 : k = t + 4
    · rw [if_pos ⟨rfl, rfl, e4⟩, e4]; exact h4
    rw [if_neg (by omega), mset_at]
    by_cases e3 : k = t + 3
    · rw [if_pos ⟨rfl, rfl, e3⟩, e3]; exact h3
    rw [if_neg (by omega), mset_at]
    by_cases e2 : k = t + 2
    · rw [if_pos ⟨rfl, rfl, e2⟩, e2]; exact h2
    rw [if_neg (by omega), mset_at]
    by_cases e1 : k = t + 1
    · rw [if_pos ⟨rfl, rfl, e1⟩, e1]; exact h1
    rw [if_neg (by omega), mset_at]
    by_cases e0 : k = t
    · rw [if_pos ⟨rfl, rfl, e0⟩, e0]; exact h0
    rw [if_neg (by omega)]
    exact s.2 k (by omega)
/-- what the reference's constructor leaves -/
def IR (M0 M : wS) : Prop := (∀ g i k, g ≠ 31 → g ≠ 32 → ¬ (g = 30 ∧ k = 3) → M.1 g i k = M0.1 g i k) ∧ M.1 30 0 3 = 1 ∧ M.1 32 0 0 = 56 ∧ ∀ k, k < 56 → M.1 31 0 k = bR k
section S97
variable {l : Launch} {D : va_G} {cy : Nat → ClassId} {ad : Nat → Nat → Nat} {G d : Nat}
theorem c_X10_spell (hG : 56 ≤ G) (M : wS) {t : Nat} {at' : Int32} (ht : at' = nI t) (ht2 : t ≤ 900) (a b c' d' e' f g h : Int32) : Ctr l D cy ad G d yX10_spell cX10_spell 10 none [.ref (ad 30 0), .int at', .int a, .int b, .int c', .int d', .int e', .int f, .int g, .int h] M (rV fun M' => M' = spM M t a b c' d' e' f g h) := by
  subst ht
  refine Ctr.of (lv0 := [(0, _), (1, _), (2, _), (3, _), (4, _), (5, _), (6, _), (7, _), (8, _), (9, _)]) (by decide) (Nat.le_of_ble_eq_true rfl) rfl ?_
  intro p e s m args below meth c C hr hlk _
  have C : CX p s m args c cX10_spell 10 "CostsAgeModel" D cy ad G (wA ad G) (Rm d) d 0 0 := C
  refine V_aload_n (pc := 0) C 0 dX10_spell_0 rfl rfl ?_
  refine get_X10_13 (pc := 1) C (wg hG (by decide) (by decide)) dX10_spell_1 ?_
  refine V_iload_n (pc := 4) C 1 dX10_spell_4 rfl rfl ?_
  refine V_iload_n (pc := 5) C 2 dX10_spell_5 rfl rfl ?_
  refine V_iast (pc := 6) C (t) rfl (by omega) (Nat.le_of_ble_eq_true rfl) (wg hG (by decide) (by decide)) (fun _ => wF_31) dX10_spell_6 ?_
  refine V_aload_n (pc := 7) C 0 dX10_spell_7 rfl rfl ?_
  refine get_X10_13 (pc := 8) C (wg hG (by decide) (by decide)) dX10_spell_8 ?_
  refine V_iload_n (pc := 11) C 1 dX10_spell_11 rfl rfl ?_
  refine V_iconst (v := 1) (pc := 12) C dX10_spell_12 (by decide) ?_
  refine V_iadd (pc := 13) C dX10_spell_13 ?_
  refine V_iload_n (pc := 14) C 3 dX10_spell_14 rfl rfl ?_
  refine V_iast (pc := 15) C (t + 1) (nI_1 t) (by omega) (Nat.le_of_ble_eq_true rfl) (wg hG (by decide) (by decide)) (fun _ => wF_31) dX10_spell_15 ?_
  refine V_aload_n (pc := 16) C 0 dX10_spell_16 rfl rfl ?_
  refine get_X10_13 (pc := 17) C (wg hG (by decide) (by decide)) dX10_spell_17 ?_
  refine V_iload_n (pc := 20) C 1 dX10_spell_20 rfl rfl ?_
  refine V_iconst (v := 2) (pc := 21) C dX10_spell_21 (by decide) ?_
  refine V_iadd (pc := 22) C dX10_spell_22 ?_
  refine V_iload (pc := 23) C 4 dX10_spell_23 rfl ?_
  refine V_iast (pc := 25) C (t + 2) (nI_add t 2) (by omega) (Nat.le_of_ble_eq_true rfl) (wg hG (by decide) (by decide)) (fun _ => wF_31) dX10_spell_25 ?_
  refine V_aload_n (pc := 26) C 0 dX10_spell_26 rfl rfl ?_
  refine get_X10_13 (pc := 27) C (wg hG (by decide) (by decide)) dX10_spell_27 ?_
  refine V_iload_n (pc := 30) C 1 dX10_spell_30 rfl rfl ?_
  refine V_iconst (v := 3) (pc := 31) C dX10_spell_31 (by decide) ?_
  refine V_iadd (pc := 32) C dX10_spell_32 ?_
  refine V_iload (pc := 33) C 5 dX10_spell_33 rfl ?_
  refine V_iast (pc := 35) C (t + 3) (nI_add t 3) (by omega) (Nat.le_of_ble_eq_true rfl) (wg hG (by decide) (by decide)) (fun _ => wF_31) dX10_spell_35 ?_
  refine V_aload_n (pc := 36) C 0 dX10_spell_36 rfl rfl ?_
  refine get_X10_13 (pc := 37) C (wg hG (by decide) (by decide)) dX10_spell_37 ?_
  refine V_iload_n (pc := 40) C 1 dX10_spell_40 rfl rfl ?_
  refine V_iconst (v := 4) (pc := 41) C dX10_spell_41 (by decide) ?_
  refine V_iadd (pc := 42) C dX10_spell_42 ?_
  refine V_iload (pc := 43) C 6 dX10_spell_43 rfl ?_
  refine V_iast (pc := 45) C (t + 4) (nI_add t 4) (by omega) (Nat.le_of_ble_eq_true rfl) (wg hG (by decide) (by decide)) (fun _ => wF_31) dX10_spell_45 ?_
  refine V_aload_n (pc := 46) C 0 dX10_spell_46 rfl rfl ?_
  refine get_X10_13 (pc := 47) C (wg hG (by decide) (by decide)) dX10_spell_47 ?_
  refine V_iload_n (pc := 50) C 1 dX10_spell_50 rfl rfl ?_
  refine V_iconst (v := 5) (pc := 51) C dX10_spell_51 (by decide) ?_
  refine V_iadd (pc := 52) C dX10_spell_52 ?_
  refine V_iload (pc := 53) C 7 dX10_spell_53 rfl ?_
  refine V_iast (pc := 55) C (t + 5) (nI_add t 5) (by omega) (Nat.le_of_ble_eq_true rfl) (wg hG (by decide) (by decide)) (fun _ => wF_31) dX10_spell_55 ?_
  refine V_aload_n (pc := 56) C 0 dX10_spell_56 rfl rfl ?_
  refine get_X10_13 (pc := 57) C (wg hG (by decide) (by decide)) dX10_spell_57 ?_
  refine V_iload_n (pc := 60) C 1 dX10_spell_60 rfl rfl ?_
  refine V_bipush (v := 6) (pc := 61) C dX10_spell_61 (by decide) ?_
  refine V_iadd (pc := 63) C dX10_spell_63 ?_
  refine V_iload (pc := 64) C 8 dX10_spell_64 rfl ?_
  refine V_iast (pc := 66) C (t + 6) (nI_add t 6) (by omega) (Nat.le_of_ble_eq_true rfl) (wg hG (by decide) (by decide)) (fun _ => wF_31) dX10_spell_66 ?_
  refine V_aload_n (pc := 67) C 0 dX10_spell_67 rfl rfl ?_
  refine get_X10_13 (pc := 68) C (wg hG (by decide) (by decide)) dX10_spell_68 ?_
  refine V_iload_n (pc := 71) C 1 dX10_spell_71 rfl rfl ?_
  refine V_bipush (v := 7) (pc := 72) C dX10_spell_72 (by decide) ?_
  refine V_iadd (pc := 74) C dX10_spell_74 ?_
  refine V_iload (pc := 75) C 9 dX10_spell_75 rfl ?_
  refine V_iast (pc := 77) C (t + 7) (nI_add t 7) (by omega) (Nat.le_of_ble_eq_true rfl) (wg hG (by decide) (by decide)) (fun _ => wF_31) dX10_spell_77 ?_
  refine V_vret (pc := 78) C hr hlk dX10_spell_78 ⟨rfl, ?_⟩
  rfl
end S97
section S97b
variable {p : Program} {l : Launch} {e : Env} {R : Room} {s : State} {m : MethodId} {args : Array Value} {below : List Frame} {meth : Method} {c : Code} {D : va_G} {cy : Nat → ClassId} {ad : Nat → Nat → Nat} {A : Nat → Prop} {cells slots d : Nat} {Q : State → Prop}
theorem v_X10_init (C : CX p s m args c cX10_init 1 "CostsAgeModel" D cy ad 56 A R d cells slots) (hd : 2 ≤ d) {M0 : wS} (k : ∀ M', IR M0 M' → V p l e R s m args below meth c 1 D cy ad 56 A cells slots Q 387 [(0, .ref (ad 30 0))] [] M') : V p l e R s m args below meth c 1 D cy ad 56 A cells slots Q 221 [(0, .ref (ad 30 0))] [] M0 := by
  have hG : 56 ≤ 56 := Nat.le_refl 56
  have s0 : SI M0 0 M0 := ⟨fun _ _ _ _ => rfl, fun k hk => absurd hk (Nat.not_lt_zero k)⟩
  refine V_aload_n (pc := 221) C 0 dX10_init_221 rfl rfl ?_
  refine V_iconst (v := 0) (pc := 222) C dX10_init_222 (by decide) ?_
  refine V_bipush (v := 115) (pc := 223) C dX10_init_223 (by decide) ?_
  refine V_bipush (v := 101) (pc := 225) C dX10_init_225 (by decide) ?_
  refine V_bipush (v := 114) (pc := 227) C dX10_init_227 (by decide) ?_
  refine V_bipush (v := 118) (pc := 229) C dX10_init_229 (by decide) ?_
  refine V_bipush (v := 101) (pc := 231) C dX10_init_231 (by decide) ?_
  refine V_bipush (v := 115) (pc := 233) C dX10_init_233 (by decide) ?_
  refine V_bipush (v := 32) (pc := 235) C dX10_init_235 (by decide) ?_
  refine V_bipush (v := 115) (pc := 237) C dX10_init_237 (by decide) ?_
  refine call_X10_96 (pc := 239) C (c_X10_spell (d := d - 1) hG _ (t := 0) rfl (by decide) _ _ _ _ _ _ _ _) (by omega) (wg hG (by decide) (by decide)) (Nat.le_of_ble_eq_true rfl) dX10_init_239 (fun M_239 h_239 => ?_)
  have s1 := s0.sp h_239 (by decide) (by decide) (by decide) (by decide) (by decide) (by decide) (by decide) (by decide)
  refine V_aload_n (pc := 242) C 0 dX10_init_242 rfl rfl ?_
  refine V_bipush (v := 8) (pc := 243) C dX10_init_243 (by decide) ?_
  refine V_bipush (v := 105) (pc := 245) C dX10_init_245 (by decide) ?_
  refine V_bipush (v := 122) (pc := 247) C dX10_init_247 (by decide) ?_
  refine V_bipush (v := 101) (pc := 249) C dX10_init_249 (by decide) ?_
  refine V_bipush (v := 32) (pc := 251) C dX10_init_251 (by decide) ?_
  refine V_bipush (v := 60) (pc := 253) C dX10_init_253 (by decide) ?_
  refine V_bipush (v := 32) (pc := 255) C dX10_init_255 (by decide) ?_
  refine V_bipush (v := 56) (pc := 257) C dX10_init_257 (by decide) ?_
  refine V_bipush (v := 32) (pc := 259) C dX10_init_259 (by decide) ?_
  refine call_X10_96 (pc := 261) C (c_X10_spell (d := d - 1) hG _ (t := 8) rfl (by decide) _ _ _ _ _ _ _ _) (by omega) (wg hG (by decide) (by decide)) (Nat.le_of_ble_eq_true rfl) dX10_init_261 (fun M_261 h_261 => ?_)
  have s2 := s1.sp h_261 (by decide) (by decide) (by decide) (by decide) (by decide) (by decide) (by decide) (by decide)
  refine V_aload_n (pc := 264) C 0 dX10_init_264 rfl rfl ?_
  refine V_bipush (v := 16) (pc := 265) C dX10_init_265 (by decide) ?_
  refine V_bipush (v := 111) (pc := 267) C dX10_init_267 (by decide) ?_
  refine V_bipush (v := 114) (pc := 269) C dX10_init_269 (by decide) ?_
  refine V_bipush (v := 32) (pc := 271) C dX10_init_271 (by decide) ?_
  refine V_bipush (v := 57) (pc := 273) C dX10_init_273 (by decide) ?_
  refine V_bipush (v := 32) (pc := 275) C dX10_init_275 (by decide) ?_
  refine V_bipush (v := 60) (pc := 277) C dX10_init_277 (by decide) ?_
  refine V_bipush (v := 32) (pc := 279) C dX10_init_279 (by decide) ?_
  refine V_bipush (v := 97) (pc := 281) C dX10_init_281 (by decide) ?_
  refine call_X10_96 (pc := 283) C (c_X10_spell (d := d - 1) hG _ (t := 16) rfl (by decide) _ _ _ _ _ _ _ _) (by omega) (wg hG (by decide) (by decide)) (Nat.le_of_ble_eq_true rfl) dX10_init_283 (fun M_283 h_283 => ?_)
  have s3 := s2.sp h_283 (by decide) (by decide) (by decide) (by decide) (by decide) (by decide) (by decide) (by decide)
  refine V_aload_n (pc := 286) C 0 dX10_init_286 rfl rfl ?_
  refine V_bipush (v := 24) (pc := 287) C dX10_init_287 (by decide) ?_
  refine V_bipush (v := 103) (pc := 289) C dX10_init_289 (by decide) ?_
  refine V_bipush (v := 101) (pc := 291) C dX10_init_291 (by decide) ?_
  refine V_bipush (v := 32) (pc := 293) C dX10_init_293 (by decide) ?_
  refine V_bipush (v := 59) (pc := 295) C dX10_init_295 (by decide) ?_
  refine V_bipush (v := 32) (pc := 297) C dX10_init_297 (by decide) ?_
  refine V_bipush (v := 97) (pc := 299) C dX10_init_299 (by decide) ?_
  refine V_bipush (v := 100) (pc := 301) C dX10_init_301 (by decide) ?_
  refine V_bipush (v := 100) (pc := 303) C dX10_init_303 (by decide) ?_
  refine call_X10_96 (pc := 305) C (c_X10_spell (d := d - 1) hG _ (t := 24) rfl (by decide) _ _ _ _ _ _ _ _) (by omega) (wg hG (by decide) (by decide)) (Nat.le_of_ble_eq_true rfl) dX10_init_305 (fun M_305 h_305 => ?_)
  have s4 := s3.sp h_305 (by decide) (by decide) (by decide) (by decide) (by decide) (by decide) (by decide) (by decide)
  refine V_aload_n (pc := 308) C 0 dX10_init_308 rfl rfl ?_
  refine V_bipush (v := 32) (pc := 309) C dX10_init_309 (by decide) ?_
  refine V_bipush (v := 115) (pc := 311) C dX10_init_311 (by decide) ?_
  refine V_bipush (v := 32) (pc := 313) C dX10_init_313 (by decide) ?_
  refine V_bipush (v := 48) (pc := 315) C dX10_init_315 (by decide) ?_
  refine V_bipush (v := 32) (pc := 317) C dX10_init_317 (by decide) ?_
  refine V_bipush (v := 59) (pc := 319) C dX10_init_319 (by decide) ?_
  refine V_bipush (v := 32) (pc := 321) C dX10_init_321 (by decide) ?_
  refine V_bipush (v := 103) (pc := 323) C dX10_init_323 (by decide) ?_
  refine V_bipush (v := 97) (pc := 325) C dX10_init_325 (by decide) ?_
  refine call_X10_96 (pc := 327) C (c_X10_spell (d := d - 1) hG _ (t := 32) rfl (by decide) _ _ _ _ _ _ _ _) (by omega) (wg hG (by decide) (by decide)) (Nat.le_of_ble_eq_true rfl) dX10_init_327 (fun M_327 h_327 => ?_)
  have s5 := s4.sp h_327 (by decide) (by decide) (by decide) (by decide) (by decide) (by decide) (by decide) (by decide)
  refine V_aload_n (pc := 330) C 0 dX10_init_330 rfl rfl ?_
  refine V_bipush (v := 40) (pc := 331) C dX10_init_331 (by decide) ?_
  refine V_bipush (v := 105) (pc := 333) C dX10_init_333 (by decide) ?_
  refine V_bipush (v := 110) (pc := 335) C dX10_init_335 (by decide) ?_
  refine V_bipush (v := 115) (pc := 337) C dX10_init_337 (by decide) ?_
  refine V_bipush (v := 32) (pc := 339) C dX10_init_339 (by decide) ?_
  refine V_bipush (v := 118) (pc := 341) C dX10_init_341 (by decide) ?_
  refine V_bipush (v := 97) (pc := 343) C dX10_init_343 (by decide) ?_
  refine V_bipush (v := 108) (pc := 345) C dX10_init_345 (by decide) ?_
  refine V_bipush (v := 117) (pc := 347) C dX10_init_347 (by decide) ?_
  refine call_X10_96 (pc := 349) C (c_X10_spell (d := d - 1) hG _ (t := 40) rfl (by decide) _ _ _ _ _ _ _ _) (by omega) (wg hG (by decide) (by decide)) (Nat.le_of_ble_eq_true rfl) dX10_init_349 (fun M_349 h_349 => ?_)
  have s6 := s5.sp h_349 (by decide) (by decide) (by decide) (by decide) (by decide) (by decide) (by decide) (by decide)
  refine V_aload_n (pc := 352) C 0 dX10_init_352 rfl rfl ?_
  refine V_bipush (v := 48) (pc := 353) C dX10_init_353 (by decide) ?_
  refine V_bipush (v := 101) (pc := 355) C dX10_init_355 (by decide) ?_
  refine V_bipush (v := 32) (pc := 357) C dX10_init_357 (by decide) ?_
  refine V_bipush (v := 59) (pc := 359) C dX10_init_359 (by decide) ?_
  refine V_bipush (v := 32) (pc := 361) C dX10_init_361 (by decide) ?_
  refine V_bipush (v := 32) (pc := 363) C dX10_init_363 (by decide) ?_
  refine V_bipush (v := 32) (pc := 365) C dX10_init_365 (by decide) ?_
  refine V_bipush (v := 32) (pc := 367) C dX10_init_367 (by decide) ?_
  refine V_bipush (v := 32) (pc := 369) C dX10_init_369 (by decide) ?_
  refine call_X10_96 (pc := 371) C (c_X10_spell (d := d - 1) hG _ (t := 48) rfl (by decide) _ _ _ _ _ _ _ _) (by omega) (wg hG (by decide) (by decide)) (Nat.le_of_ble_eq_true rfl) dX10_init_371 (fun M_371 h_371 => ?_)
  have s7 := s6.sp h_371 (by decide) (by decide) (by decide) (by decide) (by decide) (by decide) (by decide) (by decide)
  refine V_aload_n (pc := 374) C 0 dX10_init_374 rfl rfl ?_
  refine get_X10_17 (pc := 375) C (wg hG (by decide) (by decide)) dX10_init_375 ?_
  refine V_iconst (v := 0) (pc := 378) C dX10_init_378 (by decide) ?_
  refine V_bipush (v := 56) (pc := 379) C dX10_init_379 (by decide) ?_
  refine V_iast (pc := 381) C (0) (by decide) (by decide) (Nat.le_of_ble_eq_true rfl) (wg hG (by decide) (by decide)) (fun _ => wF_32) dX10_init_381 ?_
  refine V_aload_n (pc := 382) C 0 dX10_init_382 rfl rfl ?_
  refine V_iconst (v := 1) (pc := 383) C dX10_init_383 (by decide) ?_
  refine put_X10_100 (pc := 384) C (wg hG (by decide) (by decide)) dX10_init_384 ?_
  refine k _ ⟨fun g i k' h1 h2 h3 => ?_, ?_, ?_, fun k' hk => ?_⟩
  · rw [mset_at, if_neg (by omega), mset_at, if_neg (by omega)]
    exact s7.1 g i k' h1
  · rw [mset_at, if_pos ⟨rfl, rfl, rfl⟩]
  · rw [mset_at, if_neg (by omega), mset_at, if_pos ⟨rfl, rfl, rfl⟩]
  · rw [mset_at, if_neg (by omega), mset_at, if_neg (by omega)]
    exact s7.2 k' hk
end S97b
