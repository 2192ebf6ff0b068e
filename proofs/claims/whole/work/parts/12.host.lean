/-- a row's cells from j on, n of them, made 0 -/
def mfill (g i : Nat) : Nat → Nat → wS → wS
  | _, 0, M => M
  | j, n + 1, M => mfill g i (j + 1) n (mset M g i j 0)
theorem mfill_at (g i : Nat) : ∀ (n j : Nat) (M : wS) (g' i' k : Nat), (mfill g i j n M).1 g' i' k = if g' = g ∧ i' = i ∧ j ≤ k ∧ k < j + n then 0 else M.1 g' i' k := by
  intro n
  induction n with
  | zero =>
    intro j M g' i' k
    rw [if_neg (by omega)]
    rfl
  | succ n ih =>
    intro j M g' i' k
    rw [mfill, ih, mset_at]
    by_cases h1 : g' = g ∧ i' = i
    · by_cases h2 : k = j
      · simp [h1, h2]
      · by_cases h3 : j + 1 ≤ k ∧ k < j + 1 + n
        · rw [if_pos ⟨h1.1, h1.2, h3⟩, if_pos ⟨h1.1, h1.2, by omega, by omega⟩]
        · rw [if_neg (fun z => h3 z.2.2), if_neg (fun z => h2 z.2.2), if_neg (fun z => by omega)]
    · rw [if_neg (fun z => h1 ⟨z.1, z.2.1⟩), if_neg (fun z => h1 ⟨z.1, z.2.1⟩), if_neg (fun z => h1 ⟨z.1, z.2.1⟩)]
theorem mfill_2 (g i : Nat) : ∀ (n j : Nat) (M : wS), (mfill g i j n M).2 = M.2 := by
  intro n
  induction n with
  | zero => intro j M; rfl
  | succ n ih => intro j M; rw [mfill, ih]; rfl
theorem nI_i1 (a : Nat) : nI a + Int32.ofInt 1 = nI (a + 1) := by
  have h : Int32.ofInt 1 = 1 := by decide
  rw [h]
  exact nI_1 a
theorem first_or {A B : Prop} (h : ¬ A) (z : A ∨ B) : A ∨ B := z
section S12
variable {l : Launch} {D : va_G} {cy : Nat → ClassId} {ad : Nat → Nat → Nat} {G d : Nat}
theorem c_X5_isMissing (hG : 30 ≤ G) (M : wS) {i : Nat} (hi : i < 4) : Ctr l D cy ad G d yX5_isMissing cX5_isMissing 1 (some .boolean) [.ref (ad 9 i)] M (rI fun x M' => M' = M ∧ x = bI (M.1 9 i 1 = -1)) := by
  refine Ctr.of (lv0 := [(0, _)]) (by decide) (Nat.le_of_ble_eq_true rfl) rfl ?_
  intro p e s m args below meth c C hr hlk _
  have C : CX p s m args c cX5_isMissing 1 "CostsAge$Sheet" D cy ad G (wA ad G) (Rm d) d 0 0 := C
  refine V_aload_n (pc := 0) C 0 dX5_isMissing_0 rfl rfl ?_
  refine get_X5_15 (pc := 1) C (wg hG (by decide) (show i < 4 from hi)) dX5_isMissing_1 ?_
  refine V_iconst (v := -1) (pc := 4) C dX5_isMissing_4 (by decide) ?_
  refine V_icmp_ne (tgt := 12) (pc := 5) C dX5_isMissing_5 (by decide) (fun h_5 => ?_) (fun h_5 => ?_)
  · refine V_iconst (v := 0) (pc := 12) C dX5_isMissing_12 (by decide) ?_
    refine V_zret (pc := 13) C hr hlk rfl dX5_isMissing_13 ⟨_, rfl, ?_⟩
    refine ⟨rfl, ?_⟩
    first | exact bI_t h_5 | exact bI_f h_5
  · refine V_iconst (v := 1) (pc := 8) C dX5_isMissing_8 (by decide) ?_
    refine V_goto (tgt := 13) (pc := 9) C dX5_isMissing_9 (by decide) ?_
    refine V_zret (pc := 13) C hr hlk rfl dX5_isMissing_13 ⟨_, rfl, ?_⟩
    refine ⟨rfl, ?_⟩
    first | exact bI_t h_5 | exact bI_f h_5
theorem c_X5_reaches (hG : 30 ≤ G) (M : wS) {i : Nat} (hi : i < 4) (j : Int32) : Ctr l D cy ad G d yX5_reaches cX5_reaches 2 (some .boolean) [.ref (ad 9 i), .int j] M (rI fun x M' => M' = M ∧ x = bI (0 ≤ j ∧ j < M.1 9 i 2)) := by
  refine Ctr.of (lv0 := [(0, _), (1, _)]) (by decide) (Nat.le_of_ble_eq_true rfl) rfl ?_
  intro p e s m args below meth c C hr hlk _
  have C : CX p s m args c cX5_reaches 2 "CostsAge$Sheet" D cy ad G (wA ad G) (Rm d) d 0 0 := C
  refine V_iload_n (pc := 0) C 1 dX5_reaches_0 rfl rfl ?_
  refine V_if_lt (tgt := 16) (pc := 1) C dX5_reaches_1 (by decide) (fun h_1 => ?_) (fun h_1 => ?_)
  · refine V_iconst (v := 0) (pc := 16) C dX5_reaches_16 (by decide) ?_
    refine V_zret (pc := 17) C hr hlk rfl dX5_reaches_17 ⟨_, rfl, ?_⟩
    refine ⟨rfl, ?_⟩
    first | exact bI_t (by (simp only [i32_eq, Int32.le_iff_toInt_le, Int32.lt_iff_toInt_lt, Int32.not_le, Int32.not_lt, Int32.toInt_add, Int32.toInt_sub, Int32.toInt_mul, Int32.toInt_neg, Int32.toInt_div, tdv2, tdv4, tdv10, tdv52, tdv100, nI_T, apply_ite Int32.toInt, Int.bmod, Int32.reduceToInt] at *; omega)) | exact bI_f (by (simp only [i32_eq, Int32.le_iff_toInt_le, Int32.lt_iff_toInt_lt, Int32.not_le, Int32.not_lt, Int32.toInt_add, Int32.toInt_sub, Int32.toInt_mul, Int32.toInt_neg, Int32.toInt_div, tdv2, tdv4, tdv10, tdv52, tdv100, nI_T, apply_ite Int32.toInt, Int.bmod, Int32.reduceToInt] at *; omega))
  · refine V_iload_n (pc := 4) C 1 dX5_reaches_4 rfl rfl ?_
    refine V_aload_n (pc := 5) C 0 dX5_reaches_5 rfl rfl ?_
    refine get_X5_19 (pc := 6) C (wg hG (by decide) (show i < 4 from hi)) dX5_reaches_6 ?_
    refine V_icmp_ge (tgt := 16) (pc := 9) C dX5_reaches_9 (by decide) (fun h_9 => ?_) (fun h_9 => ?_)
    · refine V_iconst (v := 0) (pc := 16) C dX5_reaches_16 (by decide) ?_
      refine V_zret (pc := 17) C hr hlk rfl dX5_reaches_17 ⟨_, rfl, ?_⟩
      refine ⟨rfl, ?_⟩
      first | exact bI_t (by (simp only [i32_eq, Int32.le_iff_toInt_le, Int32.lt_iff_toInt_lt, Int32.not_le, Int32.not_lt, Int32.toInt_add, Int32.toInt_sub, Int32.toInt_mul, Int32.toInt_neg, Int32.toInt_div, tdv2, tdv4, tdv10, tdv52, tdv100, nI_T, apply_ite Int32.toInt, Int.bmod, Int32.reduceToInt] at *; omega)) | exact bI_f (by (simp only [i32_eq, Int32.le_iff_toInt_le, Int32.lt_iff_toInt_lt, Int32.not_le, Int32.not_lt, Int32.toInt_add, Int32.toInt_sub, Int32.toInt_mul, Int32.toInt_neg, Int32.toInt_div, tdv2, tdv4, tdv10, tdv52, tdv100, nI_T, apply_ite Int32.toInt, Int.bmod, Int32.reduceToInt] at *; omega))
    · refine V_iconst (v := 1) (pc := 12) C dX5_reaches_12 (by decide) ?_
      refine V_goto (tgt := 17) (pc := 13) C dX5_reaches_13 (by decide) ?_
      refine V_zret (pc := 17) C hr hlk rfl dX5_reaches_17 ⟨_, rfl, ?_⟩
      refine ⟨rfl, ?_⟩
      first | exact bI_t (by (simp only [i32_eq, Int32.le_iff_toInt_le, Int32.lt_iff_toInt_lt, Int32.not_le, Int32.not_lt, Int32.toInt_add, Int32.toInt_sub, Int32.toInt_mul, Int32.toInt_neg, Int32.toInt_div, tdv2, tdv4, tdv10, tdv52, tdv100, nI_T, apply_ite Int32.toInt, Int.bmod, Int32.reduceToInt] at *; omega)) | exact bI_f (by (simp only [i32_eq, Int32.le_iff_toInt_le, Int32.lt_iff_toInt_lt, Int32.not_le, Int32.not_lt, Int32.toInt_add, Int32.toInt_sub, Int32.toInt_mul, Int32.toInt_neg, Int32.toInt_div, tdv2, tdv4, tdv10, tdv52, tdv100, nI_T, apply_ite Int32.toInt, Int.bmod, Int32.reduceToInt] at *; omega))
theorem c_X5_spans (hG : 30 ≤ G) (M : wS) {i : Nat} (hi : i < 4) (j n : Int32) : Ctr l D cy ad G d yX5_spans cX5_spans 3 (some .boolean) [.ref (ad 9 i), .int j, .int n] M (rI fun x M' => M' = M ∧ x = bI (0 ≤ n ∧ n ≤ M.1 9 i 2 ∧ 0 ≤ j ∧ j ≤ M.1 9 i 2 - n)) := by
  refine Ctr.of (lv0 := [(0, _), (1, _), (2, _)]) (by decide) (Nat.le_of_ble_eq_true rfl) rfl ?_
  intro p e s m args below meth c C hr hlk _
  have C : CX p s m args c cX5_spans 3 "CostsAge$Sheet" D cy ad G (wA ad G) (Rm d) d 0 0 := C
  refine V_iload_n (pc := 0) C 2 dX5_spans_0 rfl rfl ?_
  refine V_if_lt (tgt := 30) (pc := 1) C dX5_spans_1 (by decide) (fun h_1 => ?_) (fun h_1 => ?_)
  · refine V_iconst (v := 0) (pc := 30) C dX5_spans_30 (by decide) ?_
    refine V_zret (pc := 31) C hr hlk rfl dX5_spans_31 ⟨_, rfl, ?_⟩
    refine ⟨rfl, ?_⟩
    first | exact bI_t ⟨Int32.not_lt.mp h_1, Int32.not_lt.mp h_9, Int32.not_lt.mp h_13, Int32.not_lt.mp h_23⟩ | exact bI_f (fun z => Int32.not_lt.mpr z.1 h_1) | exact bI_f (fun z => Int32.not_lt.mpr z.2.1 h_9) | exact bI_f (fun z => Int32.not_lt.mpr z.2.2.1 h_13) | exact bI_f (fun z => Int32.not_lt.mpr z.2.2.2 h_23)
  · refine V_iload_n (pc := 4) C 2 dX5_spans_4 rfl rfl ?_
    refine V_aload_n (pc := 5) C 0 dX5_spans_5 rfl rfl ?_
    refine get_X5_19 (pc := 6) C (wg hG (by decide) (show i < 4 from hi)) dX5_spans_6 ?_
    refine V_icmp_gt (tgt := 30) (pc := 9) C dX5_spans_9 (by decide) (fun h_9 => ?_) (fun h_9 => ?_)
    · refine V_iconst (v := 0) (pc := 30) C dX5_spans_30 (by decide) ?_
      refine V_zret (pc := 31) C hr hlk rfl dX5_spans_31 ⟨_, rfl, ?_⟩
      refine ⟨rfl, ?_⟩
      first | exact bI_t ⟨Int32.not_lt.mp h_1, Int32.not_lt.mp h_9, Int32.not_lt.mp h_13, Int32.not_lt.mp h_23⟩ | exact bI_f (fun z => Int32.not_lt.mpr z.1 h_1) | exact bI_f (fun z => Int32.not_lt.mpr z.2.1 h_9) | exact bI_f (fun z => Int32.not_lt.mpr z.2.2.1 h_13) | exact bI_f (fun z => Int32.not_lt.mpr z.2.2.2 h_23)
    · refine V_iload_n (pc := 12) C 1 dX5_spans_12 rfl rfl ?_
      refine V_if_lt (tgt := 30) (pc := 13) C dX5_spans_13 (by decide) (fun h_13 => ?_) (fun h_13 => ?_)
      · refine V_iconst (v := 0) (pc := 30) C dX5_spans_30 (by decide) ?_
        refine V_zret (pc := 31) C hr hlk rfl dX5_spans_31 ⟨_, rfl, ?_⟩
        refine ⟨rfl, ?_⟩
        first | exact bI_t ⟨Int32.not_lt.mp h_1, Int32.not_lt.mp h_9, Int32.not_lt.mp h_13, Int32.not_lt.mp h_23⟩ | exact bI_f (fun z => Int32.not_lt.mpr z.1 h_1) | exact bI_f (fun z => Int32.not_lt.mpr z.2.1 h_9) | exact bI_f (fun z => Int32.not_lt.mpr z.2.2.1 h_13) | exact bI_f (fun z => Int32.not_lt.mpr z.2.2.2 h_23)
      · refine V_iload_n (pc := 16) C 1 dX5_spans_16 rfl rfl ?_
        refine V_aload_n (pc := 17) C 0 dX5_spans_17 rfl rfl ?_
        refine get_X5_19 (pc := 18) C (wg hG (by decide) (show i < 4 from hi)) dX5_spans_18 ?_
        refine V_iload_n (pc := 21) C 2 dX5_spans_21 rfl rfl ?_
        refine V_isub (pc := 22) C dX5_spans_22 ?_
        refine V_icmp_gt (tgt := 30) (pc := 23) C dX5_spans_23 (by decide) (fun h_23 => ?_) (fun h_23 => ?_)
        · refine V_iconst (v := 0) (pc := 30) C dX5_spans_30 (by decide) ?_
          refine V_zret (pc := 31) C hr hlk rfl dX5_spans_31 ⟨_, rfl, ?_⟩
          refine ⟨rfl, ?_⟩
          first | exact bI_t ⟨Int32.not_lt.mp h_1, Int32.not_lt.mp h_9, Int32.not_lt.mp h_13, Int32.not_lt.mp h_23⟩ | exact bI_f (fun z => Int32.not_lt.mpr z.1 h_1) | exact bI_f (fun z => Int32.not_lt.mpr z.2.1 h_9) | exact bI_f (fun z => Int32.not_lt.mpr z.2.2.1 h_13) | exact bI_f (fun z => Int32.not_lt.mpr z.2.2.2 h_23)
        · refine V_iconst (v := 1) (pc := 26) C dX5_spans_26 (by decide) ?_
          refine V_goto (tgt := 31) (pc := 27) C dX5_spans_27 (by decide) ?_
          refine V_zret (pc := 31) C hr hlk rfl dX5_spans_31 ⟨_, rfl, ?_⟩
          refine ⟨rfl, ?_⟩
          first | exact bI_t ⟨Int32.not_lt.mp h_1, Int32.not_lt.mp h_9, Int32.not_lt.mp h_13, Int32.not_lt.mp h_23⟩ | exact bI_f (fun z => Int32.not_lt.mpr z.1 h_1) | exact bI_f (fun z => Int32.not_lt.mpr z.2.1 h_9) | exact bI_f (fun z => Int32.not_lt.mpr z.2.2.1 h_13) | exact bI_f (fun z => Int32.not_lt.mpr z.2.2.2 h_23)
def kCut (sort v : Int32) : Int32 := if sort = 0 then v.toInt8.toInt32 else if sort = 1 then v.toInt16.toInt32 else v
theorem c_X5_write (hG : 30 ≤ G) (M : wS) {i : Nat} (hi : i < 4) {j : Nat} (hj : j < 40) (v : Int32) : Ctr l D cy ad G d yX5_write cX5_write 3 none [.ref (ad 9 i), .int (nI j), .int v] M (rV fun M' => M' = mset M 10 i j (kCut (M.1 9 i 1) v)) := by
  refine Ctr.of (lv0 := [(0, _), (1, _), (2, _)]) (by decide) (Nat.le_of_ble_eq_true rfl) rfl ?_
  intro p e s m args below meth c C hr hlk _
  have C : CX p s m args c cX5_write 3 "CostsAge$Sheet" D cy ad G (wA ad G) (Rm d) d 0 0 := C
  refine V_aload_n (pc := 0) C 0 dX5_write_0 rfl rfl ?_
  refine get_X5_15 (pc := 1) C (wg hG (by decide) (show i < 4 from hi)) dX5_write_1 ?_
  refine V_if_ne (tgt := 18) (pc := 4) C dX5_write_4 (by decide) (fun h_4 => ?_) (fun h_4 => ?_)
  · refine V_aload_n (pc := 18) C 0 dX5_write_18 rfl rfl ?_
    refine get_X5_15 (pc := 19) C (wg hG (by decide) (show i < 4 from hi)) dX5_write_19 ?_
    refine V_iconst (v := 1) (pc := 22) C dX5_write_22 (by decide) ?_
    refine V_icmp_ne (tgt := 37) (pc := 23) C dX5_write_23 (by decide) (fun h_23 => ?_) (fun h_23 => ?_)
    · refine V_aload_n (pc := 37) C 0 dX5_write_37 rfl rfl ?_
      refine get_X5_9 (pc := 38) C (wg hG (by decide) (show i < 4 from hi)) dX5_write_38 ?_
      refine V_iload_n (pc := 41) C 1 dX5_write_41 rfl rfl ?_
      refine V_iload_n (pc := 42) C 2 dX5_write_42 rfl rfl ?_
      refine V_iast (pc := 43) C (j) rfl hj (Nat.le_of_ble_eq_true rfl) (wg hG (by decide) (show i < 4 from hi)) (fun _ => wF_10) dX5_write_43 ?_
      refine V_vret (pc := 44) C hr hlk dX5_write_44 ⟨rfl, ?_⟩
      rw [kCut, if_neg h_4, if_neg h_23]
    · refine V_aload_n (pc := 26) C 0 dX5_write_26 rfl rfl ?_
      refine get_X5_9 (pc := 27) C (wg hG (by decide) (show i < 4 from hi)) dX5_write_27 ?_
      refine V_iload_n (pc := 30) C 1 dX5_write_30 rfl rfl ?_
      refine V_iload_n (pc := 31) C 2 dX5_write_31 rfl rfl ?_
      refine V_i2s (pc := 32) C dX5_write_32 ?_
      refine V_iast (pc := 33) C (j) rfl hj (Nat.le_of_ble_eq_true rfl) (wg hG (by decide) (show i < 4 from hi)) (fun _ => wF_10) dX5_write_33 ?_
      refine V_goto (tgt := 44) (pc := 34) C dX5_write_34 (by decide) ?_
      refine V_vret (pc := 44) C hr hlk dX5_write_44 ⟨rfl, ?_⟩
      rw [kCut, if_neg h_4, if_pos h_23]
  · refine V_aload_n (pc := 7) C 0 dX5_write_7 rfl rfl ?_
    refine get_X5_9 (pc := 8) C (wg hG (by decide) (show i < 4 from hi)) dX5_write_8 ?_
    refine V_iload_n (pc := 11) C 1 dX5_write_11 rfl rfl ?_
    refine V_iload_n (pc := 12) C 2 dX5_write_12 rfl rfl ?_
    refine V_i2b (pc := 13) C dX5_write_13 ?_
    refine V_iast (pc := 14) C (j) rfl hj (Nat.le_of_ble_eq_true rfl) (wg hG (by decide) (show i < 4 from hi)) (fun _ => wF_10) dX5_write_14 ?_
    refine V_goto (tgt := 44) (pc := 15) C dX5_write_15 (by decide) ?_
    refine V_vret (pc := 44) C hr hlk dX5_write_44 ⟨rfl, ?_⟩
    rw [kCut, if_pos h_4]
theorem lp_X5_become {p : Program} {e : Env} {s : State} {m : MethodId} {args : Array Value} {below : List Frame} {meth : Method} {c : Code} (C : CX p s m args c cX5_become 4 "CostsAge$Sheet" D cy ad G (wA ad G) (Rm d) d 0 0) (hr : meth.sig.returnType = none) (hlk : meth.locks = false) (hG : 30 ≤ G) {i : Nat} (hi : i < 4) (a b : Int32) (Qf : wS → Prop) : ∀ (n j : Nat) (M : wS), j + n = 40 → Qf (mfill 10 i j n M) → V p l e (Rm d) s m args below meth c 4 D cy ad G (wA ad G) 0 0 (MQ below (wQ D cy ad G (rV Qf)) args s 0 0 (wA ad G)) 12 [(0, .ref (ad 9 i)), (1, .int a), (2, .int b), (3, .int (nI j))] [] M := by
  intro n
  induction n with
  | zero =>
    intro j M hj hq
    refine V_iload_n (pc := 12) C 3 dX5_become_12 rfl rfl ?_
    refine V_bipush (v := 40) (pc := 13) C dX5_become_13 (by decide) ?_
    refine V_icmp_ge (tgt := 31) (pc := 15) C dX5_become_15 (by decide) (fun h_15 => ?_) (fun h_15 => ?_)
    · refine V_vret (pc := 31) C hr hlk dX5_become_31 ⟨rfl, ?_⟩
      exact hq
    · exact absurd (by (simp only [i32_eq, Int32.le_iff_toInt_le, Int32.lt_iff_toInt_lt, Int32.not_le, Int32.not_lt, Int32.toInt_add, Int32.toInt_sub, Int32.toInt_mul, Int32.toInt_neg, Int32.toInt_div, tdv2, tdv4, tdv10, tdv52, tdv100, nI_T, apply_ite Int32.toInt, Int.bmod, Int32.reduceToInt] at *; omega)) h_15
  | succ n ih =>
    intro j M hj hq
    refine V_iload_n (pc := 12) C 3 dX5_become_12 rfl rfl ?_
    refine V_bipush (v := 40) (pc := 13) C dX5_become_13 (by decide) ?_
    refine V_icmp_ge (tgt := 31) (pc := 15) C dX5_become_15 (by decide) (fun h_15 => ?_) (fun h_15 => ?_)
    · exact absurd h_15 (by (simp only [i32_eq, Int32.le_iff_toInt_le, Int32.lt_iff_toInt_lt, Int32.not_le, Int32.not_lt, Int32.toInt_add, Int32.toInt_sub, Int32.toInt_mul, Int32.toInt_neg, Int32.toInt_div, tdv2, tdv4, tdv10, tdv52, tdv100, nI_T, apply_ite Int32.toInt, Int.bmod, Int32.reduceToInt] at *; omega))
    · refine V_aload_n (pc := 18) C 0 dX5_become_18 rfl rfl ?_
      refine get_X5_9 (pc := 19) C (wg hG (by decide) (show i < 4 from hi)) dX5_become_19 ?_
      refine V_iload_n (pc := 22) C 3 dX5_become_22 rfl rfl ?_
      refine V_iconst (v := 0) (pc := 23) C dX5_become_23 (by decide) ?_
      refine V_iast (pc := 24) C (j) rfl (by omega) (Nat.le_of_ble_eq_true rfl) (wg hG (by decide) (show i < 4 from hi)) (fun _ => wF_10) dX5_become_24 ?_
      refine Vs_iinc (v := nI (j + 1)) (lv' := [(0, _), (1, _), (2, _), (3, _)]) (pc := 25) C 3 dX5_become_25 rfl (by decide) rfl (nI_i1 (j)) rfl ?_
      refine V_goto (tgt := 12) (pc := 28) C dX5_become_28 (by decide) ?_
      exact ih (j + 1) _ (by omega) hq
theorem c_X5_become (hG : 30 ≤ G) (M : wS) {i : Nat} (hi : i < 4) (sort n : Int32) : Ctr l D cy ad G d yX5_become cX5_become 4 none [.ref (ad 9 i), .int sort, .int n] M (rV fun M' => M' = mfill 10 i 0 40 (mset (mset M 9 i 1 sort) 9 i 2 n)) := by
  refine Ctr.of (lv0 := [(0, _), (1, _), (2, _)]) (by decide) (Nat.le_of_ble_eq_true rfl) rfl ?_
  intro p e s m args below meth c C hr hlk _
  have C : CX p s m args c cX5_become 4 "CostsAge$Sheet" D cy ad G (wA ad G) (Rm d) d 0 0 := C
  refine V_aload_n (pc := 0) C 0 dX5_become_0 rfl rfl ?_
  refine V_iload_n (pc := 1) C 1 dX5_become_1 rfl rfl ?_
  refine put_X5_15 (pc := 2) C (wg hG (by decide) (show i < 4 from hi)) dX5_become_2 ?_
  refine V_aload_n (pc := 5) C 0 dX5_become_5 rfl rfl ?_
  refine V_iload_n (pc := 6) C 2 dX5_become_6 rfl rfl ?_
  refine put_X5_19 (pc := 7) C (wg hG (by decide) (show i < 4 from hi)) dX5_become_7 ?_
  refine V_iconst (v := 0) (pc := 10) C dX5_become_10 (by decide) ?_
  refine Vs_istore_n (lv' := [(0, _), (1, _), (2, _), (3, _)]) (pc := 11) C dX5_become_11 rfl (by decide) rfl rfl ?_
  exact lp_X5_become C hr hlk hG hi sort n _ 40 0 _ rfl rfl
def kSheet (M : wS) (sheet sort n : Int32) : Int32 × wS :=
  if (0 ≤ sheet ∧ sheet < 4) ∧ (sort = -1 ∨ 0 ≤ sort ∧ sort ≤ 2) then
    (if sort = -1 then (1, mfill 10 sheet.toNatClampNeg 0 40 (mset (mset M 9 sheet.toNatClampNeg 1 (-1)) 9 sheet.toNatClampNeg 2 0))
     else if n ≤ 40 then (if 0 ≤ n then (1, mfill 10 sheet.toNatClampNeg 0 40 (mset (mset M 9 sheet.toNatClampNeg 1 sort) 9 sheet.toNatClampNeg 2 n)) else (-14, M)) else (-2, M))
  else (-2, M)
theorem c_X9_sheet (hG : 30 ≤ G) (hd : 1 ≤ d) (M : wS) (sheet sort n : Int32) : Ctr l D cy ad G d yX9_sheet cX9_sheet 4 (some .int) [.ref (ad 0 0), .int sheet, .int sort, .int n] M (rI fun x M' => (x, M') = kSheet M sheet sort n) := by
  refine Ctr.of (lv0 := [(0, _), (1, _), (2, _), (3, _)]) (by decide) (Nat.le_of_ble_eq_true rfl) rfl ?_
  intro p e s m args below meth c C hr hlk _
  have C : CX p s m args c cX9_sheet 4 "CostsAge" D cy ad G (wA ad G) (Rm d) d 0 0 := C
  refine V_iload_n (pc := 0) C 1 dX9_sheet_0 rfl rfl ?_
  refine call_X9_312 (pc := 1) C (c_X9_isSheet (d := d - 1) M _) (by omega) (Nat.le_of_ble_eq_true rfl) dX9_sheet_1 (fun x_1 M_1 h_1 => ?_)
  obtain ⟨e_1, rfl⟩ := h_1
  have e_1 := e_1.symm
  subst e_1
  refine V_if_eq (tgt := 19) (pc := 4) C dX9_sheet_4 (by decide) (fun h_4 => ?_) (fun h_4 => ?_)
  · have h_4 := bJ_0.mp h_4
    refine V_bipush (v := -2) (pc := 19) C dX9_sheet_19 (by decide) ?_
    refine V_iret (pc := 21) C hr hlk dX9_sheet_21 ⟨_, rfl, ?_⟩
    rw [kSheet, if_neg (fun z => h_4 z.1)]
  · have h_4 := bJ_1.mp h_4
    obtain ⟨k, hk4, rfl⟩ := ix_of (n := 4) h_4.1 h_4.2 (by decide)
    refine V_iload_n (pc := 7) C 2 dX9_sheet_7 rfl rfl ?_
    refine V_iconst (v := -1) (pc := 8) C dX9_sheet_8 (by decide) ?_
    refine V_icmp_eq (tgt := 22) (pc := 9) C dX9_sheet_9 (by decide) (fun h_9 => ?_) (fun h_9 => ?_)
    · refine V_iload_n (pc := 22) C 2 dX9_sheet_22 rfl rfl ?_
      refine V_iconst (v := -1) (pc := 23) C dX9_sheet_23 (by decide) ?_
      refine V_icmp_ne (tgt := 40) (pc := 24) C dX9_sheet_24 (by decide) (fun h_24 => ?_) (fun h_24 => ?_)
      · have h9 : ¬ sort = -1 := h_24
        refine V_iload_n (pc := 40) C 3 dX9_sheet_40 rfl rfl ?_
        refine V_bipush (v := 40) (pc := 41) C dX9_sheet_41 (by decide) ?_
        refine V_icmp_le (tgt := 49) (pc := 43) C dX9_sheet_43 (by decide) (fun h_43 => ?_) (fun h_43 => ?_)
        · refine V_iload_n (pc := 49) C 3 dX9_sheet_49 rfl rfl ?_
          refine V_if_ge (tgt := 56) (pc := 50) C dX9_sheet_50 (by decide) (fun h_50 => ?_) (fun h_50 => ?_)
          · refine V_aload_n (pc := 56) C 0 dX9_sheet_56 rfl rfl ?_
            refine get_X9_29 (pc := 57) C (wg hG (by decide) (by decide)) dX9_sheet_57 ?_
            refine V_iload_n (pc := 60) C 1 dX9_sheet_60 rfl rfl ?_
            refine V_aald (pc := 61) C (k) rfl hk4 (Nat.le_of_ble_eq_true rfl) (wg hG (by decide) (by decide)) wF_4 rfl dX9_sheet_61 ?_
            refine V_iload_n (pc := 62) C 2 dX9_sheet_62 rfl rfl ?_
            refine V_iload_n (pc := 63) C 3 dX9_sheet_63 rfl rfl ?_
            refine call_X9_340 (pc := 64) C (c_X5_become (d := d - 1) hG M hk4 _ _) (by omega) (wg hG (by decide) (show (k) < 4 from hk4)) (Nat.le_of_ble_eq_true rfl) dX9_sheet_64 (fun M_64 h_64 => ?_)
            have e_64 := h_64.symm
            subst e_64
            refine V_iconst (v := 1) (pc := 67) C dX9_sheet_67 (by decide) ?_
            refine V_iret (pc := 68) C hr hlk dX9_sheet_68 ⟨_, rfl, ?_⟩
            rw [kSheet, if_pos ⟨h_4, first_or h9 (by first | exact Or.inr h_16 | exact Or.inl h_9)⟩, if_neg h9, if_pos h_43, if_pos h_50, nI_clamp (by omega)]
          · refine V_bipush (v := -14) (pc := 53) C dX9_sheet_53 (by decide) ?_
            refine V_iret (pc := 55) C hr hlk dX9_sheet_55 ⟨_, rfl, ?_⟩
            rw [kSheet, if_pos ⟨h_4, first_or h9 (by first | exact Or.inr h_16 | exact Or.inl h_9)⟩, if_neg h9, if_pos h_43, if_neg h_50]
        · refine V_bipush (v := -2) (pc := 46) C dX9_sheet_46 (by decide) ?_
          refine V_iret (pc := 48) C hr hlk dX9_sheet_48 ⟨_, rfl, ?_⟩
          rw [kSheet, if_pos ⟨h_4, first_or h9 (by first | exact Or.inr h_16 | exact Or.inl h_9)⟩, if_neg h9, if_neg h_43]
      · have h9 : sort = -1 := h_24
        refine V_aload_n (pc := 27) C 0 dX9_sheet_27 rfl rfl ?_
        refine get_X9_29 (pc := 28) C (wg hG (by decide) (by decide)) dX9_sheet_28 ?_
        refine V_iload_n (pc := 31) C 1 dX9_sheet_31 rfl rfl ?_
        refine V_aald (pc := 32) C (k) rfl hk4 (Nat.le_of_ble_eq_true rfl) (wg hG (by decide) (by decide)) wF_4 rfl dX9_sheet_32 ?_
        refine V_iconst (v := -1) (pc := 33) C dX9_sheet_33 (by decide) ?_
        refine V_iconst (v := 0) (pc := 34) C dX9_sheet_34 (by decide) ?_
        refine call_X9_340 (pc := 35) C (c_X5_become (d := d - 1) hG M hk4 _ _) (by omega) (wg hG (by decide) (show (k) < 4 from hk4)) (Nat.le_of_ble_eq_true rfl) dX9_sheet_35 (fun M_35 h_35 => ?_)
        have e_35 := h_35.symm
        subst e_35
        refine V_iconst (v := 1) (pc := 38) C dX9_sheet_38 (by decide) ?_
        refine V_iret (pc := 39) C hr hlk dX9_sheet_39 ⟨_, rfl, ?_⟩
        rw [kSheet, if_pos ⟨h_4, Or.inl h9⟩, if_pos h9, nI_clamp (by omega)]
    · refine V_iload_n (pc := 12) C 2 dX9_sheet_12 rfl rfl ?_
      refine call_X9_337 (pc := 13) C (c_X9_isSort (d := d - 1) M _) (by omega) (Nat.le_of_ble_eq_true rfl) dX9_sheet_13 (fun x_13 M_13 h_13 => ?_)
      obtain ⟨e_13, rfl⟩ := h_13
      have e_13 := e_13.symm
      subst e_13
      refine V_if_ne (tgt := 22) (pc := 16) C dX9_sheet_16 (by decide) (fun h_16 => ?_) (fun h_16 => ?_)
      · have h_16 := bJ_1.mp h_16
        refine V_iload_n (pc := 22) C 2 dX9_sheet_22 rfl rfl ?_
        refine V_iconst (v := -1) (pc := 23) C dX9_sheet_23 (by decide) ?_
        refine V_icmp_ne (tgt := 40) (pc := 24) C dX9_sheet_24 (by decide) (fun h_24 => ?_) (fun h_24 => ?_)
        · have h9 : ¬ sort = -1 := h_24
          refine V_iload_n (pc := 40) C 3 dX9_sheet_40 rfl rfl ?_
          refine V_bipush (v := 40) (pc := 41) C dX9_sheet_41 (by decide) ?_
          refine V_icmp_le (tgt := 49) (pc := 43) C dX9_sheet_43 (by decide) (fun h_43 => ?_) (fun h_43 => ?_)
          · refine V_iload_n (pc := 49) C 3 dX9_sheet_49 rfl rfl ?_
            refine V_if_ge (tgt := 56) (pc := 50) C dX9_sheet_50 (by decide) (fun h_50 => ?_) (fun h_50 => ?_)
            · refine V_aload_n (pc := 56) C 0 dX9_sheet_56 rfl rfl ?_
              refine get_X9_29 (pc := 57) C (wg hG (by decide) (by decide)) dX9_sheet_57 ?_
              refine V_iload_n (pc := 60) C 1 dX9_sheet_60 rfl rfl ?_
              refine V_aald (pc := 61) C (k) rfl hk4 (Nat.le_of_ble_eq_true rfl) (wg hG (by decide) (by decide)) wF_4 rfl dX9_sheet_61 ?_
              refine V_iload_n (pc := 62) C 2 dX9_sheet_62 rfl rfl ?_
              refine V_iload_n (pc := 63) C 3 dX9_sheet_63 rfl rfl ?_
              refine call_X9_340 (pc := 64) C (c_X5_become (d := d - 1) hG M hk4 _ _) (by omega) (wg hG (by decide) (show (k) < 4 from hk4)) (Nat.le_of_ble_eq_true rfl) dX9_sheet_64 (fun M_64 h_64 => ?_)
              have e_64 := h_64.symm
              subst e_64
              refine V_iconst (v := 1) (pc := 67) C dX9_sheet_67 (by decide) ?_
              refine V_iret (pc := 68) C hr hlk dX9_sheet_68 ⟨_, rfl, ?_⟩
              rw [kSheet, if_pos ⟨h_4, first_or h9 (by first | exact Or.inr h_16 | exact Or.inl h_9)⟩, if_neg h9, if_pos h_43, if_pos h_50, nI_clamp (by omega)]
            · refine V_bipush (v := -14) (pc := 53) C dX9_sheet_53 (by decide) ?_
              refine V_iret (pc := 55) C hr hlk dX9_sheet_55 ⟨_, rfl, ?_⟩
              rw [kSheet, if_pos ⟨h_4, first_or h9 (by first | exact Or.inr h_16 | exact Or.inl h_9)⟩, if_neg h9, if_pos h_43, if_neg h_50]
          · refine V_bipush (v := -2) (pc := 46) C dX9_sheet_46 (by decide) ?_
            refine V_iret (pc := 48) C hr hlk dX9_sheet_48 ⟨_, rfl, ?_⟩
            rw [kSheet, if_pos ⟨h_4, first_or h9 (by first | exact Or.inr h_16 | exact Or.inl h_9)⟩, if_neg h9, if_neg h_43]
        · have h9 : sort = -1 := h_24
          refine V_aload_n (pc := 27) C 0 dX9_sheet_27 rfl rfl ?_
          refine get_X9_29 (pc := 28) C (wg hG (by decide) (by decide)) dX9_sheet_28 ?_
          refine V_iload_n (pc := 31) C 1 dX9_sheet_31 rfl rfl ?_
          refine V_aald (pc := 32) C (k) rfl hk4 (Nat.le_of_ble_eq_true rfl) (wg hG (by decide) (by decide)) wF_4 rfl dX9_sheet_32 ?_
          refine V_iconst (v := -1) (pc := 33) C dX9_sheet_33 (by decide) ?_
          refine V_iconst (v := 0) (pc := 34) C dX9_sheet_34 (by decide) ?_
          refine call_X9_340 (pc := 35) C (c_X5_become (d := d - 1) hG M hk4 _ _) (by omega) (wg hG (by decide) (show (k) < 4 from hk4)) (Nat.le_of_ble_eq_true rfl) dX9_sheet_35 (fun M_35 h_35 => ?_)
          have e_35 := h_35.symm
          subst e_35
          refine V_iconst (v := 1) (pc := 38) C dX9_sheet_38 (by decide) ?_
          refine V_iret (pc := 39) C hr hlk dX9_sheet_39 ⟨_, rfl, ?_⟩
          rw [kSheet, if_pos ⟨h_4, Or.inl h9⟩, if_pos h9, nI_clamp (by omega)]
      · have h_16 := bJ_0.mp h_16
        refine V_bipush (v := -2) (pc := 19) C dX9_sheet_19 (by decide) ?_
        refine V_iret (pc := 21) C hr hlk dX9_sheet_21 ⟨_, rfl, ?_⟩
        rw [kSheet, if_neg (fun z => z.2.elim h_9 h_16)]
def kCell (M : wS) (sheet i v : Int32) : Int32 × wS :=
  if 0 ≤ sheet ∧ sheet < 4 then
    (if M.1 9 sheet.toNatClampNeg 1 = -1 then (-11, M)
     else if 0 ≤ i ∧ i < M.1 9 sheet.toNatClampNeg 2 then (1, mset M 10 sheet.toNatClampNeg i.toNatClampNeg (kCut (M.1 9 sheet.toNatClampNeg 1) v)) else (-12, M))
  else (-2, M)
theorem c_X9_cell (hG : 30 ≤ G) (hd : 1 ≤ d) (M : wS) (hs : ∀ k, k < 4 → M.1 9 k 2 ≤ 40) (sheet i v : Int32) : Ctr l D cy ad G d yX9_cell cX9_cell 5 (some .int) [.ref (ad 0 0), .int sheet, .int i, .int v] M (rI fun x M' => (x, M') = kCell M sheet i v) := by
  refine Ctr.of (lv0 := [(0, _), (1, _), (2, _), (3, _)]) (by decide) (Nat.le_of_ble_eq_true rfl) rfl ?_
  intro p e s m args below meth c C hr hlk _
  have C : CX p s m args c cX9_cell 5 "CostsAge" D cy ad G (wA ad G) (Rm d) d 0 0 := C
  refine V_iload_n (pc := 0) C 1 dX9_cell_0 rfl rfl ?_
  refine call_X9_312 (pc := 1) C (c_X9_isSheet (d := d - 1) M _) (by omega) (Nat.le_of_ble_eq_true rfl) dX9_cell_1 (fun x_1 M_1 h_1 => ?_)
  obtain ⟨e_1, rfl⟩ := h_1
  have e_1 := e_1.symm
  subst e_1
  refine V_if_ne (tgt := 10) (pc := 4) C dX9_cell_4 (by decide) (fun h_4 => ?_) (fun h_4 => ?_)
  · have h_4 := bJ_1.mp h_4
    obtain ⟨k, hk4, rfl⟩ := ix_of (n := 4) h_4.1 h_4.2 (by decide)
    have ek : (nI k).toNatClampNeg = k := nI_clamp (by omega)
    refine V_aload_n (pc := 10) C 0 dX9_cell_10 rfl rfl ?_
    refine get_X9_29 (pc := 11) C (wg hG (by decide) (by decide)) dX9_cell_11 ?_
    refine V_iload_n (pc := 14) C 1 dX9_cell_14 rfl rfl ?_
    refine V_aald (pc := 15) C (k) rfl hk4 (Nat.le_of_ble_eq_true rfl) (wg hG (by decide) (by decide)) wF_4 rfl dX9_cell_15 ?_
    refine Vs_astore (lv' := [(0, _), (1, _), (2, _), (3, _), (4, _)]) (pc := 16) C dX9_cell_16 (by decide) rfl rfl ?_
    refine V_aload (pc := 18) C 4 dX9_cell_18 rfl ?_
    refine call_X9_315 (pc := 20) C (c_X5_isMissing (d := d - 1) hG M hk4) (by omega) (wg hG (by decide) (show (k) < 4 from hk4)) (Nat.le_of_ble_eq_true rfl) dX9_cell_20 (fun x_20 M_20 h_20 => ?_)
    obtain ⟨e_20, rfl⟩ := h_20
    have e_20 := e_20.symm
    subst e_20
    refine V_if_eq (tgt := 29) (pc := 23) C dX9_cell_23 (by decide) (fun h_23 => ?_) (fun h_23 => ?_)
    · have h_23 := bJ_0.mp h_23
      refine V_aload (pc := 29) C 4 dX9_cell_29 rfl ?_
      refine V_iload_n (pc := 31) C 2 dX9_cell_31 rfl rfl ?_
      refine call_X9_342 (pc := 32) C (c_X5_reaches (d := d - 1) hG M hk4 _) (by omega) (wg hG (by decide) (show (k) < 4 from hk4)) (Nat.le_of_ble_eq_true rfl) dX9_cell_32 (fun x_32 M_32 h_32 => ?_)
      obtain ⟨e_32, rfl⟩ := h_32
      have e_32 := e_32.symm
      subst e_32
      refine V_if_ne (tgt := 41) (pc := 35) C dX9_cell_35 (by decide) (fun h_35 => ?_) (fun h_35 => ?_)
      · have h_35 := bJ_1.mp h_35
        obtain ⟨j, hj, rfl⟩ := ix_of (n := 40) h_35.1 (Int32.lt_of_lt_of_le h_35.2 (hs k hk4)) (by decide)
        refine V_aload (pc := 41) C 4 dX9_cell_41 rfl ?_
        refine V_iload_n (pc := 43) C 2 dX9_cell_43 rfl rfl ?_
        refine V_iload_n (pc := 44) C 3 dX9_cell_44 rfl rfl ?_
        refine call_X9_345 (pc := 45) C (c_X5_write (d := d - 1) hG M hk4 hj _) (by omega) (wg hG (by decide) (show (k) < 4 from hk4)) (Nat.le_of_ble_eq_true rfl) dX9_cell_45 (fun M_45 h_45 => ?_)
        have e_45 := h_45.symm
        subst e_45
        refine V_iconst (v := 1) (pc := 48) C dX9_cell_48 (by decide) ?_
        refine V_iret (pc := 49) C hr hlk dX9_cell_49 ⟨_, rfl, ?_⟩
        rw [kCell, if_pos h_4, ek, if_neg h_23, if_pos h_35, nI_clamp (by omega)]
      · have h_35 := bJ_0.mp h_35
        refine V_bipush (v := -12) (pc := 38) C dX9_cell_38 (by decide) ?_
        refine V_iret (pc := 40) C hr hlk dX9_cell_40 ⟨_, rfl, ?_⟩
        rw [kCell, if_pos h_4, ek, if_neg h_23, if_neg h_35]
    · have h_23 := bJ_1.mp h_23
      refine V_bipush (v := -11) (pc := 26) C dX9_cell_26 (by decide) ?_
      refine V_iret (pc := 28) C hr hlk dX9_cell_28 ⟨_, rfl, ?_⟩
      rw [kCell, if_pos h_4, ek, if_pos h_23]
  · have h_4 := bJ_0.mp h_4
    refine V_bipush (v := -2) (pc := 7) C dX9_cell_7 (by decide) ?_
    refine V_iret (pc := 9) C hr hlk dX9_cell_9 ⟨_, rfl, ?_⟩
    rw [kCell, if_neg h_4]
end S12
