theorem bJ_0 {P : Prop} {i : Decidable P} : @bI P i = 0 ↔ ¬ P := @bI_0 P i
theorem bJ_1 {P : Prop} {i : Decidable P} : ¬ @bI P i = 0 ↔ P := @bI_1 P i
theorem i32_eq {x y : Int32} : x = y ↔ x.toInt = y.toInt := Int32.toInt_inj.symm
theorem tdv {x d : Int} (hd : 0 < d) : x.tdiv d = if 0 ≤ x then x / d else -((-x) / d) := by
  split
  · next h => exact Int.tdiv_eq_ediv_of_nonneg h
  · next h =>
    have h2 : 0 ≤ -x := by omega
    rw [← Int.tdiv_eq_ediv_of_nonneg h2, Int.neg_tdiv, Int.neg_neg]
theorem tdv2 {x : Int} : x.tdiv 2 = if 0 ≤ x then x / 2 else -((-x) / 2) := tdv (by decide)
theorem tdv4 {x : Int} : x.tdiv 4 = if 0 ≤ x then x / 4 else -((-x) / 4) := tdv (by decide)
theorem tdv10 {x : Int} : x.tdiv 10 = if 0 ≤ x then x / 10 else -((-x) / 10) := tdv (by decide)
theorem tdv52 {x : Int} : x.tdiv 52 = if 0 ≤ x then x / 52 else -((-x) / 52) := tdv (by decide)
theorem tdv100 {x : Int} : x.tdiv 100 = if 0 ≤ x then x / 100 else -((-x) / 100) := tdv (by decide)
theorem nI_T (n : Nat) : (nI n).toInt = Int.bmod (n : Int) (2 ^ 32) := by
  unfold nI
  rw [Int32.toInt_ofNat']
theorem ix_of {x : Int32} {n : Nat} (h0 : 0 ≤ x) (h : x < nI n) (hn : n < 2 ^ 31) : ∃ k, k < n ∧ x = nI k := by
  refine ⟨x.toInt.toNat, ?_, ?_⟩
  · (simp only [i32_eq, Int32.le_iff_toInt_le, Int32.lt_iff_toInt_lt, Int32.not_le, Int32.not_lt, Int32.toInt_add, Int32.toInt_sub, Int32.toInt_mul, Int32.toInt_neg, Int32.toInt_div, tdv2, tdv4, tdv10, tdv52, tdv100, nI_T, apply_ite Int32.toInt, Int.bmod, Int32.reduceToInt] at *; omega)
  · rw [i32_eq, nI_T]
    have := Int32.toInt_lt x
    simp only [Int32.le_iff_toInt_le, Int32.lt_iff_toInt_lt, Int.bmod, Int32.reduceToInt] at *
    omega
theorem mx1 (a z : Int32) : (if a < z then z else a) = (if z < a then a else z) := by
  by_cases h1 : a < z
  · have h2 : ¬ z < a := by (simp only [i32_eq, Int32.le_iff_toInt_le, Int32.lt_iff_toInt_lt, Int32.not_le, Int32.not_lt, Int32.toInt_add, Int32.toInt_sub, Int32.toInt_mul, Int32.toInt_neg, Int32.toInt_div, tdv2, tdv4, tdv10, tdv52, tdv100, nI_T, apply_ite Int32.toInt, Int.bmod, Int32.reduceToInt] at *; omega)
    rw [if_pos h1, if_neg h2]
  · by_cases h2 : z < a
    · rw [if_neg h1, if_pos h2]
    · rw [if_neg h1, if_neg h2]
      (simp only [i32_eq, Int32.le_iff_toInt_le, Int32.lt_iff_toInt_lt, Int32.not_le, Int32.not_lt, Int32.toInt_add, Int32.toInt_sub, Int32.toInt_mul, Int32.toInt_neg, Int32.toInt_div, tdv2, tdv4, tdv10, tdv52, tdv100, nI_T, apply_ite Int32.toInt, Int.bmod, Int32.reduceToInt] at *; omega)
def pChild (y : Int32) : Int32 := if y < 3 then 3 else y
def pElder (y : Int32) : Int32 := if 60 < y then y - (y - 60) / 2 else y
theorem pElder_c (y : Int32) (h : 0 ≤ y ∧ y ≤ 99) : y - (if 0 < y - 60 then y - 60 else 0) / 2 = pElder y := by
  obtain ⟨k, hk, rfl⟩ := ix_of (n := 100) h.1 (by (simp only [i32_eq, Int32.le_iff_toInt_le, Int32.lt_iff_toInt_lt, Int32.not_le, Int32.not_lt, Int32.toInt_add, Int32.toInt_sub, Int32.toInt_mul, Int32.toInt_neg, Int32.toInt_div, tdv2, tdv4, tdv10, tdv52, tdv100, nI_T, apply_ite Int32.toInt, Int.bmod, Int32.reduceToInt] at *; omega)) (by decide)
  have key : ∀ k, k < 100 → nI k - (if 0 < nI k - 60 then nI k - 60 else 0) / 2 = pElder (nI k) := by decide +kernel
  exact key k hk
/-- PENCE by kind, number, years, week -/
def pPence (k num y w : Int32) : Int32 :=
  if k = 1 then pChild y
  else if k = 2 then pElder y
  else if k = 3 then 2 * pChild y
  else if k = 4 then (if w - w / 4 * 4 = num - num / 4 * 4 then pChild y + 1 else pChild y)
  else if k = 5 then (if pElder y - num < 0 then 0 else pElder y - num)
  else y
/-- ASKS by kind, number, fee -/
def pAsks (k num f : Int32) : Int32 := if k = 1 ∨ k = 4 then f / 2 else if k = 3 then f / 2 + 5 else if k = 5 then 2 * f + num else f
/-- years in n weeks: as the class counts -/
def pAhead (born week : Int32) : Int32 := if born ≤ week then born - week + 52 else born - week
def pMore (born week n : Int32) : Int32 := if pAhead born week ≤ n then 1 + (n - pAhead born week) / 52 else 0
def pAgeC (born years week n : Int32) : Int32 := if years + pMore born week n < 99 then years + pMore born week n else 99
def pHeld (v : Int32) : Int32 := if v < 0 then 0 else if 999 < v then 999 else v
section S10
variable {l : Launch} {D : va_G} {cy : Nat → ClassId} {ad : Nat → Nat → Nat} {G d : Nat}
theorem c_X9_isWithin (M : wS) (v last : Int32) : Ctr l D cy ad G d yX9_isWithin cX9_isWithin 2 (some .boolean) [.int v, .int last] M (rI fun x M' => M' = M ∧ x = bI (0 ≤ v ∧ v ≤ last)) := by
  refine Ctr.of (lv0 := [(0, _), (1, _)]) (by decide) (Nat.le_of_ble_eq_true rfl) rfl ?_
  intro p e s m args below meth c C hr hlk _
  have C : CX p s m args c cX9_isWithin 2 "CostsAge" D cy ad G (wA ad G) (Rm d) d 0 0 := C
  refine V_iload_n (pc := 0) C 0 dX9_isWithin_0 rfl rfl ?_
  refine V_if_lt (tgt := 13) (pc := 1) C dX9_isWithin_1 (by decide) (fun h_1 => ?_) (fun h_1 => ?_)
  · refine V_iconst (v := 0) (pc := 13) C dX9_isWithin_13 (by decide) ?_
    refine V_zret (pc := 14) C hr hlk rfl dX9_isWithin_14 ⟨_, rfl, ?_⟩
    refine ⟨rfl, ?_⟩
    first | exact bI_t (by (simp only [i32_eq, Int32.le_iff_toInt_le, Int32.lt_iff_toInt_lt, Int32.not_le, Int32.not_lt, Int32.toInt_add, Int32.toInt_sub, Int32.toInt_mul, Int32.toInt_neg, Int32.toInt_div, tdv2, tdv4, tdv10, tdv52, tdv100, nI_T, apply_ite Int32.toInt, Int.bmod, Int32.reduceToInt] at *; omega)) | exact bI_f (by (simp only [i32_eq, Int32.le_iff_toInt_le, Int32.lt_iff_toInt_lt, Int32.not_le, Int32.not_lt, Int32.toInt_add, Int32.toInt_sub, Int32.toInt_mul, Int32.toInt_neg, Int32.toInt_div, tdv2, tdv4, tdv10, tdv52, tdv100, nI_T, apply_ite Int32.toInt, Int.bmod, Int32.reduceToInt] at *; omega))
  · refine V_iload_n (pc := 4) C 0 dX9_isWithin_4 rfl rfl ?_
    refine V_iload_n (pc := 5) C 1 dX9_isWithin_5 rfl rfl ?_
    refine V_icmp_gt (tgt := 13) (pc := 6) C dX9_isWithin_6 (by decide) (fun h_6 => ?_) (fun h_6 => ?_)
    · refine V_iconst (v := 0) (pc := 13) C dX9_isWithin_13 (by decide) ?_
      refine V_zret (pc := 14) C hr hlk rfl dX9_isWithin_14 ⟨_, rfl, ?_⟩
      refine ⟨rfl, ?_⟩
      first | exact bI_t (by (simp only [i32_eq, Int32.le_iff_toInt_le, Int32.lt_iff_toInt_lt, Int32.not_le, Int32.not_lt, Int32.toInt_add, Int32.toInt_sub, Int32.toInt_mul, Int32.toInt_neg, Int32.toInt_div, tdv2, tdv4, tdv10, tdv52, tdv100, nI_T, apply_ite Int32.toInt, Int.bmod, Int32.reduceToInt] at *; omega)) | exact bI_f (by (simp only [i32_eq, Int32.le_iff_toInt_le, Int32.lt_iff_toInt_lt, Int32.not_le, Int32.not_lt, Int32.toInt_add, Int32.toInt_sub, Int32.toInt_mul, Int32.toInt_neg, Int32.toInt_div, tdv2, tdv4, tdv10, tdv52, tdv100, nI_T, apply_ite Int32.toInt, Int.bmod, Int32.reduceToInt] at *; omega))
    · refine V_iconst (v := 1) (pc := 9) C dX9_isWithin_9 (by decide) ?_
      refine V_goto (tgt := 14) (pc := 10) C dX9_isWithin_10 (by decide) ?_
      refine V_zret (pc := 14) C hr hlk rfl dX9_isWithin_14 ⟨_, rfl, ?_⟩
      refine ⟨rfl, ?_⟩
      first | exact bI_t (by (simp only [i32_eq, Int32.le_iff_toInt_le, Int32.lt_iff_toInt_lt, Int32.not_le, Int32.not_lt, Int32.toInt_add, Int32.toInt_sub, Int32.toInt_mul, Int32.toInt_neg, Int32.toInt_div, tdv2, tdv4, tdv10, tdv52, tdv100, nI_T, apply_ite Int32.toInt, Int.bmod, Int32.reduceToInt] at *; omega)) | exact bI_f (by (simp only [i32_eq, Int32.le_iff_toInt_le, Int32.lt_iff_toInt_lt, Int32.not_le, Int32.not_lt, Int32.toInt_add, Int32.toInt_sub, Int32.toInt_mul, Int32.toInt_neg, Int32.toInt_div, tdv2, tdv4, tdv10, tdv52, tdv100, nI_T, apply_ite Int32.toInt, Int.bmod, Int32.reduceToInt] at *; omega))
theorem c_X9_isBuyer (hG : 30 ≤ G) (M : wS) (b : Int32) : Ctr l D cy ad G d yX9_isBuyer cX9_isBuyer 2 (some .boolean) [.ref (ad 0 0), .int b] M (rI fun x M' => M' = M ∧ x = bI (0 ≤ b ∧ b < M.1 0 0 11)) := by
  refine Ctr.of (lv0 := [(0, _), (1, _)]) (by decide) (Nat.le_of_ble_eq_true rfl) rfl ?_
  intro p e s m args below meth c C hr hlk _
  have C : CX p s m args c cX9_isBuyer 2 "CostsAge" D cy ad G (wA ad G) (Rm d) d 0 0 := C
  refine V_iload_n (pc := 0) C 1 dX9_isBuyer_0 rfl rfl ?_
  refine V_if_lt (tgt := 16) (pc := 1) C dX9_isBuyer_1 (by decide) (fun h_1 => ?_) (fun h_1 => ?_)
  · refine V_iconst (v := 0) (pc := 16) C dX9_isBuyer_16 (by decide) ?_
    refine V_zret (pc := 17) C hr hlk rfl dX9_isBuyer_17 ⟨_, rfl, ?_⟩
    refine ⟨rfl, ?_⟩
    first | exact bI_t (by (simp only [i32_eq, Int32.le_iff_toInt_le, Int32.lt_iff_toInt_lt, Int32.not_le, Int32.not_lt, Int32.toInt_add, Int32.toInt_sub, Int32.toInt_mul, Int32.toInt_neg, Int32.toInt_div, tdv2, tdv4, tdv10, tdv52, tdv100, nI_T, apply_ite Int32.toInt, Int.bmod, Int32.reduceToInt] at *; omega)) | exact bI_f (by (simp only [i32_eq, Int32.le_iff_toInt_le, Int32.lt_iff_toInt_lt, Int32.not_le, Int32.not_lt, Int32.toInt_add, Int32.toInt_sub, Int32.toInt_mul, Int32.toInt_neg, Int32.toInt_div, tdv2, tdv4, tdv10, tdv52, tdv100, nI_T, apply_ite Int32.toInt, Int.bmod, Int32.reduceToInt] at *; omega))
  · refine V_iload_n (pc := 4) C 1 dX9_isBuyer_4 rfl rfl ?_
    refine V_aload_n (pc := 5) C 0 dX9_isBuyer_5 rfl rfl ?_
    refine get_X9_106 (pc := 6) C (wg hG (by decide) (by decide)) dX9_isBuyer_6 ?_
    refine V_icmp_ge (tgt := 16) (pc := 9) C dX9_isBuyer_9 (by decide) (fun h_9 => ?_) (fun h_9 => ?_)
    · refine V_iconst (v := 0) (pc := 16) C dX9_isBuyer_16 (by decide) ?_
      refine V_zret (pc := 17) C hr hlk rfl dX9_isBuyer_17 ⟨_, rfl, ?_⟩
      refine ⟨rfl, ?_⟩
      first | exact bI_t (by (simp only [i32_eq, Int32.le_iff_toInt_le, Int32.lt_iff_toInt_lt, Int32.not_le, Int32.not_lt, Int32.toInt_add, Int32.toInt_sub, Int32.toInt_mul, Int32.toInt_neg, Int32.toInt_div, tdv2, tdv4, tdv10, tdv52, tdv100, nI_T, apply_ite Int32.toInt, Int.bmod, Int32.reduceToInt] at *; omega)) | exact bI_f (by (simp only [i32_eq, Int32.le_iff_toInt_le, Int32.lt_iff_toInt_lt, Int32.not_le, Int32.not_lt, Int32.toInt_add, Int32.toInt_sub, Int32.toInt_mul, Int32.toInt_neg, Int32.toInt_div, tdv2, tdv4, tdv10, tdv52, tdv100, nI_T, apply_ite Int32.toInt, Int.bmod, Int32.reduceToInt] at *; omega))
    · refine V_iconst (v := 1) (pc := 12) C dX9_isBuyer_12 (by decide) ?_
      refine V_goto (tgt := 17) (pc := 13) C dX9_isBuyer_13 (by decide) ?_
      refine V_zret (pc := 17) C hr hlk rfl dX9_isBuyer_17 ⟨_, rfl, ?_⟩
      refine ⟨rfl, ?_⟩
      first | exact bI_t (by (simp only [i32_eq, Int32.le_iff_toInt_le, Int32.lt_iff_toInt_lt, Int32.not_le, Int32.not_lt, Int32.toInt_add, Int32.toInt_sub, Int32.toInt_mul, Int32.toInt_neg, Int32.toInt_div, tdv2, tdv4, tdv10, tdv52, tdv100, nI_T, apply_ite Int32.toInt, Int.bmod, Int32.reduceToInt] at *; omega)) | exact bI_f (by (simp only [i32_eq, Int32.le_iff_toInt_le, Int32.lt_iff_toInt_lt, Int32.not_le, Int32.not_lt, Int32.toInt_add, Int32.toInt_sub, Int32.toInt_mul, Int32.toInt_neg, Int32.toInt_div, tdv2, tdv4, tdv10, tdv52, tdv100, nI_T, apply_ite Int32.toInt, Int.bmod, Int32.reduceToInt] at *; omega))
theorem c_X9_isWare (hG : 30 ≤ G) (M : wS) (b : Int32) : Ctr l D cy ad G d yX9_isWare cX9_isWare 2 (some .boolean) [.ref (ad 0 0), .int b] M (rI fun x M' => M' = M ∧ x = bI (0 ≤ b ∧ b < M.1 0 0 12)) := by
  refine Ctr.of (lv0 := [(0, _), (1, _)]) (by decide) (Nat.le_of_ble_eq_true rfl) rfl ?_
  intro p e s m args below meth c C hr hlk _
  have C : CX p s m args c cX9_isWare 2 "CostsAge" D cy ad G (wA ad G) (Rm d) d 0 0 := C
  refine V_iload_n (pc := 0) C 1 dX9_isWare_0 rfl rfl ?_
  refine V_if_lt (tgt := 16) (pc := 1) C dX9_isWare_1 (by decide) (fun h_1 => ?_) (fun h_1 => ?_)
  · refine V_iconst (v := 0) (pc := 16) C dX9_isWare_16 (by decide) ?_
    refine V_zret (pc := 17) C hr hlk rfl dX9_isWare_17 ⟨_, rfl, ?_⟩
    refine ⟨rfl, ?_⟩
    first | exact bI_t (by (simp only [i32_eq, Int32.le_iff_toInt_le, Int32.lt_iff_toInt_lt, Int32.not_le, Int32.not_lt, Int32.toInt_add, Int32.toInt_sub, Int32.toInt_mul, Int32.toInt_neg, Int32.toInt_div, tdv2, tdv4, tdv10, tdv52, tdv100, nI_T, apply_ite Int32.toInt, Int.bmod, Int32.reduceToInt] at *; omega)) | exact bI_f (by (simp only [i32_eq, Int32.le_iff_toInt_le, Int32.lt_iff_toInt_lt, Int32.not_le, Int32.not_lt, Int32.toInt_add, Int32.toInt_sub, Int32.toInt_mul, Int32.toInt_neg, Int32.toInt_div, tdv2, tdv4, tdv10, tdv52, tdv100, nI_T, apply_ite Int32.toInt, Int.bmod, Int32.reduceToInt] at *; omega))
  · refine V_iload_n (pc := 4) C 1 dX9_isWare_4 rfl rfl ?_
    refine V_aload_n (pc := 5) C 0 dX9_isWare_5 rfl rfl ?_
    refine get_X9_124 (pc := 6) C (wg hG (by decide) (by decide)) dX9_isWare_6 ?_
    refine V_icmp_ge (tgt := 16) (pc := 9) C dX9_isWare_9 (by decide) (fun h_9 => ?_) (fun h_9 => ?_)
    · refine V_iconst (v := 0) (pc := 16) C dX9_isWare_16 (by decide) ?_
      refine V_zret (pc := 17) C hr hlk rfl dX9_isWare_17 ⟨_, rfl, ?_⟩
      refine ⟨rfl, ?_⟩
      first | exact bI_t (by (simp only [i32_eq, Int32.le_iff_toInt_le, Int32.lt_iff_toInt_lt, Int32.not_le, Int32.not_lt, Int32.toInt_add, Int32.toInt_sub, Int32.toInt_mul, Int32.toInt_neg, Int32.toInt_div, tdv2, tdv4, tdv10, tdv52, tdv100, nI_T, apply_ite Int32.toInt, Int.bmod, Int32.reduceToInt] at *; omega)) | exact bI_f (by (simp only [i32_eq, Int32.le_iff_toInt_le, Int32.lt_iff_toInt_lt, Int32.not_le, Int32.not_lt, Int32.toInt_add, Int32.toInt_sub, Int32.toInt_mul, Int32.toInt_neg, Int32.toInt_div, tdv2, tdv4, tdv10, tdv52, tdv100, nI_T, apply_ite Int32.toInt, Int.bmod, Int32.reduceToInt] at *; omega))
    · refine V_iconst (v := 1) (pc := 12) C dX9_isWare_12 (by decide) ?_
      refine V_goto (tgt := 17) (pc := 13) C dX9_isWare_13 (by decide) ?_
      refine V_zret (pc := 17) C hr hlk rfl dX9_isWare_17 ⟨_, rfl, ?_⟩
      refine ⟨rfl, ?_⟩
      first | exact bI_t (by (simp only [i32_eq, Int32.le_iff_toInt_le, Int32.lt_iff_toInt_lt, Int32.not_le, Int32.not_lt, Int32.toInt_add, Int32.toInt_sub, Int32.toInt_mul, Int32.toInt_neg, Int32.toInt_div, tdv2, tdv4, tdv10, tdv52, tdv100, nI_T, apply_ite Int32.toInt, Int.bmod, Int32.reduceToInt] at *; omega)) | exact bI_f (by (simp only [i32_eq, Int32.le_iff_toInt_le, Int32.lt_iff_toInt_lt, Int32.not_le, Int32.not_lt, Int32.toInt_add, Int32.toInt_sub, Int32.toInt_mul, Int32.toInt_neg, Int32.toInt_div, tdv2, tdv4, tdv10, tdv52, tdv100, nI_T, apply_ite Int32.toInt, Int.bmod, Int32.reduceToInt] at *; omega))
theorem c_X9_isSheet (M : wS) (v : Int32) : Ctr l D cy ad G d yX9_isSheet cX9_isSheet 1 (some .boolean) [.int v] M (rI fun x M' => M' = M ∧ x = bI (0 ≤ v ∧ v < 4)) := by
  refine Ctr.of (lv0 := [(0, _)]) (by decide) (Nat.le_of_ble_eq_true rfl) rfl ?_
  intro p e s m args below meth c C hr hlk _
  have C : CX p s m args c cX9_isSheet 1 "CostsAge" D cy ad G (wA ad G) (Rm d) d 0 0 := C
  refine V_iload_n (pc := 0) C 0 dX9_isSheet_0 rfl rfl ?_
  refine V_if_lt (tgt := 13) (pc := 1) C dX9_isSheet_1 (by decide) (fun h_1 => ?_) (fun h_1 => ?_)
  · refine V_iconst (v := 0) (pc := 13) C dX9_isSheet_13 (by decide) ?_
    refine V_zret (pc := 14) C hr hlk rfl dX9_isSheet_14 ⟨_, rfl, ?_⟩
    refine ⟨rfl, ?_⟩
    first | exact bI_t (by (simp only [i32_eq, Int32.le_iff_toInt_le, Int32.lt_iff_toInt_lt, Int32.not_le, Int32.not_lt, Int32.toInt_add, Int32.toInt_sub, Int32.toInt_mul, Int32.toInt_neg, Int32.toInt_div, tdv2, tdv4, tdv10, tdv52, tdv100, nI_T, apply_ite Int32.toInt, Int.bmod, Int32.reduceToInt] at *; omega)) | exact bI_f (by (simp only [i32_eq, Int32.le_iff_toInt_le, Int32.lt_iff_toInt_lt, Int32.not_le, Int32.not_lt, Int32.toInt_add, Int32.toInt_sub, Int32.toInt_mul, Int32.toInt_neg, Int32.toInt_div, tdv2, tdv4, tdv10, tdv52, tdv100, nI_T, apply_ite Int32.toInt, Int.bmod, Int32.reduceToInt] at *; omega))
  · refine V_iload_n (pc := 4) C 0 dX9_isSheet_4 rfl rfl ?_
    refine V_iconst (v := 4) (pc := 5) C dX9_isSheet_5 (by decide) ?_
    refine V_icmp_ge (tgt := 13) (pc := 6) C dX9_isSheet_6 (by decide) (fun h_6 => ?_) (fun h_6 => ?_)
    · refine V_iconst (v := 0) (pc := 13) C dX9_isSheet_13 (by decide) ?_
      refine V_zret (pc := 14) C hr hlk rfl dX9_isSheet_14 ⟨_, rfl, ?_⟩
      refine ⟨rfl, ?_⟩
      first | exact bI_t (by (simp only [i32_eq, Int32.le_iff_toInt_le, Int32.lt_iff_toInt_lt, Int32.not_le, Int32.not_lt, Int32.toInt_add, Int32.toInt_sub, Int32.toInt_mul, Int32.toInt_neg, Int32.toInt_div, tdv2, tdv4, tdv10, tdv52, tdv100, nI_T, apply_ite Int32.toInt, Int.bmod, Int32.reduceToInt] at *; omega)) | exact bI_f (by (simp only [i32_eq, Int32.le_iff_toInt_le, Int32.lt_iff_toInt_lt, Int32.not_le, Int32.not_lt, Int32.toInt_add, Int32.toInt_sub, Int32.toInt_mul, Int32.toInt_neg, Int32.toInt_div, tdv2, tdv4, tdv10, tdv52, tdv100, nI_T, apply_ite Int32.toInt, Int.bmod, Int32.reduceToInt] at *; omega))
    · refine V_iconst (v := 1) (pc := 9) C dX9_isSheet_9 (by decide) ?_
      refine V_goto (tgt := 14) (pc := 10) C dX9_isSheet_10 (by decide) ?_
      refine V_zret (pc := 14) C hr hlk rfl dX9_isSheet_14 ⟨_, rfl, ?_⟩
      refine ⟨rfl, ?_⟩
      first | exact bI_t (by (simp only [i32_eq, Int32.le_iff_toInt_le, Int32.lt_iff_toInt_lt, Int32.not_le, Int32.not_lt, Int32.toInt_add, Int32.toInt_sub, Int32.toInt_mul, Int32.toInt_neg, Int32.toInt_div, tdv2, tdv4, tdv10, tdv52, tdv100, nI_T, apply_ite Int32.toInt, Int.bmod, Int32.reduceToInt] at *; omega)) | exact bI_f (by (simp only [i32_eq, Int32.le_iff_toInt_le, Int32.lt_iff_toInt_lt, Int32.not_le, Int32.not_lt, Int32.toInt_add, Int32.toInt_sub, Int32.toInt_mul, Int32.toInt_neg, Int32.toInt_div, tdv2, tdv4, tdv10, tdv52, tdv100, nI_T, apply_ite Int32.toInt, Int.bmod, Int32.reduceToInt] at *; omega))
theorem c_X9_isSort (M : wS) (v : Int32) : Ctr l D cy ad G d yX9_isSort cX9_isSort 1 (some .boolean) [.int v] M (rI fun x M' => M' = M ∧ x = bI (0 ≤ v ∧ v ≤ 2)) := by
  refine Ctr.of (lv0 := [(0, _)]) (by decide) (Nat.le_of_ble_eq_true rfl) rfl ?_
  intro p e s m args below meth c C hr hlk _
  have C : CX p s m args c cX9_isSort 1 "CostsAge" D cy ad G (wA ad G) (Rm d) d 0 0 := C
  refine V_iload_n (pc := 0) C 0 dX9_isSort_0 rfl rfl ?_
  refine V_if_lt (tgt := 13) (pc := 1) C dX9_isSort_1 (by decide) (fun h_1 => ?_) (fun h_1 => ?_)
  · refine V_iconst (v := 0) (pc := 13) C dX9_isSort_13 (by decide) ?_
    refine V_zret (pc := 14) C hr hlk rfl dX9_isSort_14 ⟨_, rfl, ?_⟩
    refine ⟨rfl, ?_⟩
    first | exact bI_t (by (simp only [i32_eq, Int32.le_iff_toInt_le, Int32.lt_iff_toInt_lt, Int32.not_le, Int32.not_lt, Int32.toInt_add, Int32.toInt_sub, Int32.toInt_mul, Int32.toInt_neg, Int32.toInt_div, tdv2, tdv4, tdv10, tdv52, tdv100, nI_T, apply_ite Int32.toInt, Int.bmod, Int32.reduceToInt] at *; omega)) | exact bI_f (by (simp only [i32_eq, Int32.le_iff_toInt_le, Int32.lt_iff_toInt_lt, Int32.not_le, Int32.not_lt, Int32.toInt_add, Int32.toInt_sub, Int32.toInt_mul, Int32.toInt_neg, Int32.toInt_div, tdv2, tdv4, tdv10, tdv52, tdv100, nI_T, apply_ite Int32.toInt, Int.bmod, Int32.reduceToInt] at *; omega))
  · refine V_iload_n (pc := 4) C 0 dX9_isSort_4 rfl rfl ?_
    refine V_iconst (v := 2) (pc := 5) C dX9_isSort_5 (by decide) ?_
    refine V_icmp_gt (tgt := 13) (pc := 6) C dX9_isSort_6 (by decide) (fun h_6 => ?_) (fun h_6 => ?_)
    · refine V_iconst (v := 0) (pc := 13) C dX9_isSort_13 (by decide) ?_
      refine V_zret (pc := 14) C hr hlk rfl dX9_isSort_14 ⟨_, rfl, ?_⟩
      refine ⟨rfl, ?_⟩
      first | exact bI_t (by (simp only [i32_eq, Int32.le_iff_toInt_le, Int32.lt_iff_toInt_lt, Int32.not_le, Int32.not_lt, Int32.toInt_add, Int32.toInt_sub, Int32.toInt_mul, Int32.toInt_neg, Int32.toInt_div, tdv2, tdv4, tdv10, tdv52, tdv100, nI_T, apply_ite Int32.toInt, Int.bmod, Int32.reduceToInt] at *; omega)) | exact bI_f (by (simp only [i32_eq, Int32.le_iff_toInt_le, Int32.lt_iff_toInt_lt, Int32.not_le, Int32.not_lt, Int32.toInt_add, Int32.toInt_sub, Int32.toInt_mul, Int32.toInt_neg, Int32.toInt_div, tdv2, tdv4, tdv10, tdv52, tdv100, nI_T, apply_ite Int32.toInt, Int.bmod, Int32.reduceToInt] at *; omega))
    · refine V_iconst (v := 1) (pc := 9) C dX9_isSort_9 (by decide) ?_
      refine V_goto (tgt := 14) (pc := 10) C dX9_isSort_10 (by decide) ?_
      refine V_zret (pc := 14) C hr hlk rfl dX9_isSort_14 ⟨_, rfl, ?_⟩
      refine ⟨rfl, ?_⟩
      first | exact bI_t (by (simp only [i32_eq, Int32.le_iff_toInt_le, Int32.lt_iff_toInt_lt, Int32.not_le, Int32.not_lt, Int32.toInt_add, Int32.toInt_sub, Int32.toInt_mul, Int32.toInt_neg, Int32.toInt_div, tdv2, tdv4, tdv10, tdv52, tdv100, nI_T, apply_ite Int32.toInt, Int.bmod, Int32.reduceToInt] at *; omega)) | exact bI_f (by (simp only [i32_eq, Int32.le_iff_toInt_le, Int32.lt_iff_toInt_lt, Int32.not_le, Int32.not_lt, Int32.toInt_add, Int32.toInt_sub, Int32.toInt_mul, Int32.toInt_neg, Int32.toInt_div, tdv2, tdv4, tdv10, tdv52, tdv100, nI_T, apply_ite Int32.toInt, Int.bmod, Int32.reduceToInt] at *; omega))
theorem c_X9_has (M : wS) (v i : Int32) : Ctr l D cy ad G d yX9_has cX9_has 2 (some .boolean) [.int v, .int i] M (rI fun x M' => M' = M ∧ x = bI (¬ (v >>> (i &&& 31)) &&& 1 = 0)) := by
  refine Ctr.of (lv0 := [(0, _), (1, _)]) (by decide) (Nat.le_of_ble_eq_true rfl) rfl ?_
  intro p e s m args below meth c C hr hlk _
  have C : CX p s m args c cX9_has 2 "CostsAge" D cy ad G (wA ad G) (Rm d) d 0 0 := C
  refine V_iload_n (pc := 0) C 0 dX9_has_0 rfl rfl ?_
  refine V_iload_n (pc := 1) C 1 dX9_has_1 rfl rfl ?_
  refine V_ishr (pc := 2) C dX9_has_2 ?_
  refine V_iconst (v := 1) (pc := 3) C dX9_has_3 (by decide) ?_
  refine V_iand (pc := 4) C dX9_has_4 ?_
  refine V_if_eq (tgt := 12) (pc := 5) C dX9_has_5 (by decide) (fun h_5 => ?_) (fun h_5 => ?_)
  · refine V_iconst (v := 0) (pc := 12) C dX9_has_12 (by decide) ?_
    refine V_zret (pc := 13) C hr hlk rfl dX9_has_13 ⟨_, rfl, ?_⟩
    refine ⟨rfl, ?_⟩
    first | exact bI_t ‹_› | exact bI_f (fun h => h ‹_›)
  · refine V_iconst (v := 1) (pc := 8) C dX9_has_8 (by decide) ?_
    refine V_goto (tgt := 13) (pc := 9) C dX9_has_9 (by decide) ?_
    refine V_zret (pc := 13) C hr hlk rfl dX9_has_13 ⟨_, rfl, ?_⟩
    refine ⟨rfl, ?_⟩
    first | exact bI_t ‹_› | exact bI_f (fun h => h ‹_›)
theorem c_X9_held (hd : 1 ≤ d) (M : wS) (v : Int32) : Ctr l D cy ad G d yX9_held cX9_held 1 (some .int) [.int v] M (rI fun x M' => M' = M ∧ x = pHeld v) := by
  refine Ctr.of (lv0 := [(0, _)]) (by decide) (Nat.le_of_ble_eq_true rfl) rfl ?_
  intro p e s m args below meth c C hr hlk _
  have C : CX p s m args c cX9_held 1 "CostsAge" D cy ad G (wA ad G) (Rm d) d 0 0 := C
  refine V_iconst (v := 0) (pc := 0) C dX9_held_0 (by decide) ?_
  refine V_sipush (v := 999) (pc := 1) C dX9_held_1 (by decide) ?_
  refine V_iload_n (pc := 4) C 0 dX9_held_4 rfl rfl ?_
  refine V_mmin (pc := 5) C qm_X9_204 q_mins qn_java_lang_Math q_minc (by omega) (Nat.le_of_ble_eq_true rfl) dX9_held_5 ?_
  refine V_mmax (pc := 8) C qm_X9_240 q_maxs qn_java_lang_Math q_maxc (by omega) (Nat.le_of_ble_eq_true rfl) dX9_held_8 ?_
  refine V_iret (pc := 11) C hr hlk dX9_held_11 ⟨_, rfl, ?_⟩
  refine ⟨rfl, ?_⟩
  unfold pHeld
  simp only [i32_eq, Int32.le_iff_toInt_le, Int32.lt_iff_toInt_lt, Int32.not_le, Int32.not_lt, Int32.toInt_add, Int32.toInt_sub, Int32.toInt_mul, Int32.toInt_neg, Int32.toInt_div, tdv2, tdv4, tdv10, tdv52, tdv100, nI_T, apply_ite Int32.toInt, Int.bmod, Int32.reduceToInt] at *
  repeat' split
  all_goals omega
theorem c_X9_unbought (hG : 30 ≤ G) (M : wS) : Ctr l D cy ad G d yX9_unbought cX9_unbought 1 (some .int) [.ref (ad 0 0)] M (rI fun x M' => M' = M ∧ x = (1 <<< (M.1 0 0 12 &&& 31) - 1) &&& (M.1 26 0 3 ^^^ -1)) := by
  refine Ctr.of (lv0 := [(0, _)]) (by decide) (Nat.le_of_ble_eq_true rfl) rfl ?_
  intro p e s m args below meth c C hr hlk _
  have C : CX p s m args c cX9_unbought 1 "CostsAge" D cy ad G (wA ad G) (Rm d) d 0 0 := C
  refine V_iconst (v := 1) (pc := 0) C dX9_unbought_0 (by decide) ?_
  refine V_aload_n (pc := 1) C 0 dX9_unbought_1 rfl rfl ?_
  refine get_X9_124 (pc := 2) C (wg hG (by decide) (by decide)) dX9_unbought_2 ?_
  refine V_ishl (pc := 5) C dX9_unbought_5 ?_
  refine V_iconst (v := 1) (pc := 6) C dX9_unbought_6 (by decide) ?_
  refine V_isub (pc := 7) C dX9_unbought_7 ?_
  refine V_aload_n (pc := 8) C 0 dX9_unbought_8 rfl rfl ?_
  refine get_X9_64 (pc := 9) C (wg hG (by decide) (by decide)) dX9_unbought_9 ?_
  refine get_X9_169 (pc := 12) C (wg hG (by decide) (by decide)) dX9_unbought_12 ?_
  refine V_iconst (v := -1) (pc := 15) C dX9_unbought_15 (by decide) ?_
  refine V_ixor (pc := 16) C dX9_unbought_16 ?_
  refine V_iand (pc := 17) C dX9_unbought_17 ?_
  refine V_iret (pc := 18) C hr hlk dX9_unbought_18 ⟨_, rfl, ?_⟩
  exact ⟨rfl, rfl⟩
theorem c_X9_changeCarry (hG : 30 ≤ G) (M : wS) (v : Int32) : Ctr l D cy ad G d yX9_changeCarry cX9_changeCarry 3 (some .int) [.ref (ad 0 0), .int v] M (rI fun x M' => M' = mset M 26 0 7 v ∧ x = M.1 26 0 7) := by
  refine Ctr.of (lv0 := [(0, _), (1, _)]) (by decide) (Nat.le_of_ble_eq_true rfl) rfl ?_
  intro p e s m args below meth c C hr hlk _
  have C : CX p s m args c cX9_changeCarry 3 "CostsAge" D cy ad G (wA ad G) (Rm d) d 0 0 := C
  refine V_aload_n (pc := 0) C 0 dX9_changeCarry_0 rfl rfl ?_
  refine get_X9_64 (pc := 1) C (wg hG (by decide) (by decide)) dX9_changeCarry_1 ?_
  refine get_X9_75 (pc := 4) C (wg hG (by decide) (by decide)) dX9_changeCarry_4 ?_
  refine Vs_istore_n (lv' := [(0, _), (1, _), (2, _)]) (pc := 7) C dX9_changeCarry_7 rfl (by decide) rfl rfl ?_
  refine V_aload_n (pc := 8) C 0 dX9_changeCarry_8 rfl rfl ?_
  refine get_X9_64 (pc := 9) C (wg hG (by decide) (by decide)) dX9_changeCarry_9 ?_
  refine V_iload_n (pc := 12) C 1 dX9_changeCarry_12 rfl rfl ?_
  refine put_X9_75 (pc := 13) C (wg hG (by decide) (by decide)) dX9_changeCarry_13 ?_
  refine V_iload_n (pc := 16) C 2 dX9_changeCarry_16 rfl rfl ?_
  refine V_iret (pc := 17) C hr hlk dX9_changeCarry_17 ⟨_, rfl, ?_⟩
  exact ⟨rfl, rfl⟩
theorem c_X9_exchange (M : wS) {g i n k : Nat} (hg : wG G g i) (hF : ∀ f, wF cy ad M.2 g i f = .inl (cy 0, n, .inl f)) (hn : n < 2 ^ 31) (hi : k < n) (v : Int32) : Ctr l D cy ad G d yX9_exchange cX9_exchange 4 (some .int) [.ref (ad g i), .int (nI k), .int v] M (rI fun x M' => M' = mset M g i k v ∧ x = M.1 g i k) := by
  refine Ctr.of (lv0 := [(0, _), (1, _), (2, _)]) (by decide) (Nat.le_of_ble_eq_true rfl) rfl ?_
  intro p e s m args below meth c C hr hlk _
  have C : CX p s m args c cX9_exchange 4 "CostsAge" D cy ad G (wA ad G) (Rm d) d 0 0 := C
  refine V_aload_n (pc := 0) C 0 dX9_exchange_0 rfl rfl ?_
  refine V_iload_n (pc := 1) C 1 dX9_exchange_1 rfl rfl ?_
  refine V_iald (pc := 2) C (k) rfl hi (by omega) hg (hF _) dX9_exchange_2 ?_
  refine Vs_istore_n (lv' := [(0, _), (1, _), (2, _), (3, _)]) (pc := 3) C dX9_exchange_3 rfl (by decide) rfl rfl ?_
  refine V_aload_n (pc := 4) C 0 dX9_exchange_4 rfl rfl ?_
  refine V_iload_n (pc := 5) C 1 dX9_exchange_5 rfl rfl ?_
  refine V_iload_n (pc := 6) C 2 dX9_exchange_6 rfl rfl ?_
  refine V_iast (pc := 7) C (k) rfl hi (by omega) hg hF dX9_exchange_7 ?_
  refine V_iload_n (pc := 8) C 3 dX9_exchange_8 rfl rfl ?_
  refine V_iret (pc := 9) C hr hlk dX9_exchange_9 ⟨_, rfl, ?_⟩
  exact ⟨rfl, rfl⟩
theorem c_X0_moveBirthday (hG : 30 ≤ G) (M : wS) {i : Nat} (hi : i < 7) (v : Int32) : Ctr l D cy ad G d yX0_moveBirthday cX0_moveBirthday 3 (some .int) [.ref (ad 5 i), .int v] M (rI fun x M' => M' = mset M 5 i 1 v ∧ x = M.1 5 i 1) := by
  refine Ctr.of (lv0 := [(0, _), (1, _)]) (by decide) (Nat.le_of_ble_eq_true rfl) rfl ?_
  intro p e s m args below meth c C hr hlk _
  have C : CX p s m args c cX0_moveBirthday 3 "CostsAge$Buyer" D cy ad G (wA ad G) (Rm d) d 0 0 := C
  refine V_aload_n (pc := 0) C 0 dX0_moveBirthday_0 rfl rfl ?_
  refine get_X0_9 (pc := 1) C (wg hG (by decide) (show i < 7 from hi)) dX0_moveBirthday_1 ?_
  refine Vs_istore_n (lv' := [(0, _), (1, _), (2, _)]) (pc := 4) C dX0_moveBirthday_4 rfl (by decide) rfl rfl ?_
  refine V_aload_n (pc := 5) C 0 dX0_moveBirthday_5 rfl rfl ?_
  refine V_iload_n (pc := 6) C 1 dX0_moveBirthday_6 rfl rfl ?_
  refine put_X0_9 (pc := 7) C (wg hG (by decide) (show i < 7 from hi)) dX0_moveBirthday_7 ?_
  refine V_iload_n (pc := 10) C 2 dX0_moveBirthday_10 rfl rfl ?_
  refine V_iret (pc := 11) C hr hlk dX0_moveBirthday_11 ⟨_, rfl, ?_⟩
  exact ⟨rfl, rfl⟩
theorem c_X0_penceAt (hG : 30 ≤ G) (hd : 1 ≤ d) (M : wS) {i : Nat} (hi : i < 7) (y w : Int32) (hy : 0 ≤ y ∧ y ≤ 99) (hn : 0 ≤ M.1 5 i 2 ∧ M.1 5 i 2 ≤ 9) : Ctr l D cy ad G d yX0_penceAt cX0_penceAt 5 (some .int) [.ref (ad 5 i), .int y, .int w] M (rI fun x M' => M' = M ∧ x = pPence (M.1 5 i 0) (M.1 5 i 2) y w) := by
  refine Ctr.of (lv0 := [(0, _), (1, _), (2, _)]) (by decide) (Nat.le_of_ble_eq_true rfl) rfl ?_
  intro p e s m args below meth c C hr hlk _
  have C : CX p s m args c cX0_penceAt 5 "CostsAge$Buyer" D cy ad G (wA ad G) (Rm d) d 0 0 := C
  refine V_iconst (v := 3) (pc := 0) C dX0_penceAt_0 (by decide) ?_
  refine V_iload_n (pc := 1) C 1 dX0_penceAt_1 rfl rfl ?_
  refine V_mmax (pc := 2) C qm_X0_28 q_maxs qn_java_lang_Math q_maxc (by omega) (Nat.le_of_ble_eq_true rfl) dX0_penceAt_2 ?_
  refine Vs_istore_n (lv' := [(0, _), (1, _), (2, _), (3, _)]) (pc := 5) C dX0_penceAt_5 rfl (by decide) rfl rfl ?_
  refine V_iload_n (pc := 6) C 1 dX0_penceAt_6 rfl rfl ?_
  refine V_iconst (v := 0) (pc := 7) C dX0_penceAt_7 (by decide) ?_
  refine V_iload_n (pc := 8) C 1 dX0_penceAt_8 rfl rfl ?_
  refine V_bipush (v := 60) (pc := 9) C dX0_penceAt_9 (by decide) ?_
  refine V_isub (pc := 11) C dX0_penceAt_11 ?_
  refine V_mmax (pc := 12) C qm_X0_28 q_maxs qn_java_lang_Math q_maxc (by omega) (Nat.le_of_ble_eq_true rfl) dX0_penceAt_12 ?_
  refine V_iconst (v := 2) (pc := 15) C dX0_penceAt_15 (by decide) ?_
  refine V_idiv (pc := 16) C dX0_penceAt_16 (by decide) ?_
  refine V_isub (pc := 17) C dX0_penceAt_17 ?_
  refine Vs_istore (lv' := [(0, _), (1, _), (2, _), (3, _), (4, _)]) (pc := 18) C dX0_penceAt_18 (by decide) rfl rfl ?_
  refine V_aload_n (pc := 20) C 0 dX0_penceAt_20 rfl rfl ?_
  refine get_X0_15 (pc := 21) C (wg hG (by decide) (show i < 7 from hi)) dX0_penceAt_21 ?_
  refine V_tbl (pc := 24) C dX0_penceAt_24 rfl (fun j_24 o_24 t_24 ho_24 ht_24 h_24 _ => ?_) (fun t_24 ht_24 h_24 => ?_) (by decide +kernel) (by decide)
  · match j_24, ho_24, h_24 with
    | 0, ho_24, h_24 =>
      obtain rfl : ((36 : Int)) = o_24 := Option.some.inj ho_24
      obtain rfl : t_24 = 60 := by omega
      have hk1 : M.1 5 i 0 = 1 := by (simp only [i32_eq, Int32.le_iff_toInt_le, Int32.lt_iff_toInt_lt, Int32.not_le, Int32.not_lt, Int32.toInt_add, Int32.toInt_sub, Int32.toInt_mul, Int32.toInt_neg, Int32.toInt_div, tdv2, tdv4, tdv10, tdv52, tdv100, nI_T, apply_ite Int32.toInt, Int.bmod, Int32.reduceToInt] at *; omega)
      refine V_iload_n (pc := 60) C 3 dX0_penceAt_60 rfl rfl ?_
      refine V_iret (pc := 61) C hr hlk dX0_penceAt_61 ⟨_, rfl, ?_⟩
      exact ⟨rfl, by rw [hk1, mx1]; rfl⟩
    | 1, ho_24, h_24 =>
      obtain rfl : ((38 : Int)) = o_24 := Option.some.inj ho_24
      obtain rfl : t_24 = 62 := by omega
      have hk1 : M.1 5 i 0 = 2 := by (simp only [i32_eq, Int32.le_iff_toInt_le, Int32.lt_iff_toInt_lt, Int32.not_le, Int32.not_lt, Int32.toInt_add, Int32.toInt_sub, Int32.toInt_mul, Int32.toInt_neg, Int32.toInt_div, tdv2, tdv4, tdv10, tdv52, tdv100, nI_T, apply_ite Int32.toInt, Int.bmod, Int32.reduceToInt] at *; omega)
      refine V_iload (pc := 62) C 4 dX0_penceAt_62 rfl ?_
      refine V_iret (pc := 64) C hr hlk dX0_penceAt_64 ⟨_, rfl, ?_⟩
      exact ⟨rfl, by rw [hk1, pElder_c y hy]; rfl⟩
    | 2, ho_24, h_24 =>
      obtain rfl : ((41 : Int)) = o_24 := Option.some.inj ho_24
      obtain rfl : t_24 = 65 := by omega
      have hk1 : M.1 5 i 0 = 3 := by (simp only [i32_eq, Int32.le_iff_toInt_le, Int32.lt_iff_toInt_lt, Int32.not_le, Int32.not_lt, Int32.toInt_add, Int32.toInt_sub, Int32.toInt_mul, Int32.toInt_neg, Int32.toInt_div, tdv2, tdv4, tdv10, tdv52, tdv100, nI_T, apply_ite Int32.toInt, Int.bmod, Int32.reduceToInt] at *; omega)
      refine V_iconst (v := 2) (pc := 65) C dX0_penceAt_65 (by decide) ?_
      refine V_iload_n (pc := 66) C 3 dX0_penceAt_66 rfl rfl ?_
      refine V_imul (pc := 67) C dX0_penceAt_67 ?_
      refine V_iret (pc := 68) C hr hlk dX0_penceAt_68 ⟨_, rfl, ?_⟩
      exact ⟨rfl, by rw [hk1, mx1]; rfl⟩
    | 3, ho_24, h_24 =>
      obtain rfl : ((45 : Int)) = o_24 := Option.some.inj ho_24
      obtain rfl : t_24 = 69 := by omega
      have hk1 : M.1 5 i 0 = 4 := by (simp only [i32_eq, Int32.le_iff_toInt_le, Int32.lt_iff_toInt_lt, Int32.not_le, Int32.not_lt, Int32.toInt_add, Int32.toInt_sub, Int32.toInt_mul, Int32.toInt_neg, Int32.toInt_div, tdv2, tdv4, tdv10, tdv52, tdv100, nI_T, apply_ite Int32.toInt, Int.bmod, Int32.reduceToInt] at *; omega)
      refine V_iload_n (pc := 69) C 2 dX0_penceAt_69 rfl rfl ?_
      refine V_iconst (v := 4) (pc := 70) C dX0_penceAt_70 (by decide) ?_
      refine V_irem (pc := 71) C dX0_penceAt_71 (by decide) ?_
      refine V_aload_n (pc := 72) C 0 dX0_penceAt_72 rfl rfl ?_
      refine get_X0_31 (pc := 73) C (wg hG (by decide) (show i < 7 from hi)) dX0_penceAt_73 ?_
      refine V_iconst (v := 4) (pc := 76) C dX0_penceAt_76 (by decide) ?_
      refine V_irem (pc := 77) C dX0_penceAt_77 (by decide) ?_
      refine V_icmp_ne (tgt := 87) (pc := 78) C dX0_penceAt_78 (by decide) (fun h_78 => ?_) (fun h_78 => ?_)
      · refine V_iload_n (pc := 87) C 3 dX0_penceAt_87 rfl rfl ?_
        refine V_iret (pc := 88) C hr hlk dX0_penceAt_88 ⟨_, rfl, ?_⟩
        exact ⟨rfl, by rw [hk1, mx1]; exact (if_neg h_78).symm⟩
      · refine V_iload_n (pc := 81) C 3 dX0_penceAt_81 rfl rfl ?_
        refine V_iconst (v := 1) (pc := 82) C dX0_penceAt_82 (by decide) ?_
        refine V_iadd (pc := 83) C dX0_penceAt_83 ?_
        refine V_goto (tgt := 88) (pc := 84) C dX0_penceAt_84 (by decide) ?_
        refine V_iret (pc := 88) C hr hlk dX0_penceAt_88 ⟨_, rfl, ?_⟩
        exact ⟨rfl, by rw [hk1, mx1]; exact (if_pos h_78).symm⟩
    | 4, ho_24, h_24 =>
      obtain rfl : ((65 : Int)) = o_24 := Option.some.inj ho_24
      obtain rfl : t_24 = 89 := by omega
      have hk1 : M.1 5 i 0 = 5 := by (simp only [i32_eq, Int32.le_iff_toInt_le, Int32.lt_iff_toInt_lt, Int32.not_le, Int32.not_lt, Int32.toInt_add, Int32.toInt_sub, Int32.toInt_mul, Int32.toInt_neg, Int32.toInt_div, tdv2, tdv4, tdv10, tdv52, tdv100, nI_T, apply_ite Int32.toInt, Int.bmod, Int32.reduceToInt] at *; omega)
      refine V_iconst (v := 0) (pc := 89) C dX0_penceAt_89 (by decide) ?_
      refine V_iload (pc := 90) C 4 dX0_penceAt_90 rfl ?_
      refine V_aload_n (pc := 92) C 0 dX0_penceAt_92 rfl rfl ?_
      refine get_X0_31 (pc := 93) C (wg hG (by decide) (show i < 7 from hi)) dX0_penceAt_93 ?_
      refine V_isub (pc := 96) C dX0_penceAt_96 ?_
      refine V_mmax (pc := 97) C qm_X0_28 q_maxs qn_java_lang_Math q_maxc (by omega) (Nat.le_of_ble_eq_true rfl) dX0_penceAt_97 ?_
      refine V_iret (pc := 100) C hr hlk dX0_penceAt_100 ⟨_, rfl, ?_⟩
      exact ⟨rfl, by rw [hk1, mx1, pElder_c y hy]; rfl⟩
    | _ + 5, ho_24, h_24 => exact absurd ho_24 (by simp)
  · obtain rfl : t_24 = 101 := by omega
    refine V_iload_n (pc := 101) C 1 dX0_penceAt_101 rfl rfl ?_
    refine V_iret (pc := 102) C hr hlk dX0_penceAt_102 ⟨_, rfl, ?_⟩
    refine ⟨rfl, ?_⟩
    have z : ∀ q : Int32, 1 ≤ q.toInt ∧ q.toInt ≤ 5 → ¬ M.1 5 i 0 = q := fun q hq e => by
      rw [e] at h_24
      omega
    rw [pPence, if_neg (z 1 (by decide)), if_neg (z 2 (by decide)), if_neg (z 3 (by decide)), if_neg (z 4 (by decide)), if_neg (z 5 (by decide))]
theorem c_X0_asksBy (hG : 30 ≤ G) (M : wS) {i : Nat} (hi : i < 7) (f : Int32) : Ctr l D cy ad G d yX0_asksBy cX0_asksBy 2 (some .int) [.ref (ad 5 i), .int f] M (rI fun x M' => M' = M ∧ x = pAsks (M.1 5 i 0) (M.1 5 i 2) f) := by
  refine Ctr.of (lv0 := [(0, _), (1, _)]) (by decide) (Nat.le_of_ble_eq_true rfl) rfl ?_
  intro p e s m args below meth c C hr hlk _
  have C : CX p s m args c cX0_asksBy 2 "CostsAge$Buyer" D cy ad G (wA ad G) (Rm d) d 0 0 := C
  refine V_aload_n (pc := 0) C 0 dX0_asksBy_0 rfl rfl ?_
  refine get_X0_15 (pc := 1) C (wg hG (by decide) (show i < 7 from hi)) dX0_asksBy_1 ?_
  refine V_tbl (pc := 4) C dX0_asksBy_4 rfl (fun j_4 o_4 t_4 ho_4 ht_4 h_4 _ => ?_) (fun t_4 ht_4 h_4 => ?_) (by decide +kernel) (by decide)
  · match j_4, ho_4, h_4 with
    | 0, ho_4, h_4 =>
      obtain rfl : ((36 : Int)) = o_4 := Option.some.inj ho_4
      obtain rfl : t_4 = 40 := by omega
      have hk1 : M.1 5 i 0 = 1 := by (simp only [i32_eq, Int32.le_iff_toInt_le, Int32.lt_iff_toInt_lt, Int32.not_le, Int32.not_lt, Int32.toInt_add, Int32.toInt_sub, Int32.toInt_mul, Int32.toInt_neg, Int32.toInt_div, tdv2, tdv4, tdv10, tdv52, tdv100, nI_T, apply_ite Int32.toInt, Int.bmod, Int32.reduceToInt] at *; omega)
      refine V_iload_n (pc := 40) C 1 dX0_asksBy_40 rfl rfl ?_
      refine V_iconst (v := 2) (pc := 41) C dX0_asksBy_41 (by decide) ?_
      refine V_idiv (pc := 42) C dX0_asksBy_42 (by decide) ?_
      refine V_iret (pc := 43) C hr hlk dX0_asksBy_43 ⟨_, rfl, ?_⟩
      refine ⟨rfl, ?_⟩
      first | (rw [hk1]; rfl) | (rw [pAsks, if_neg (fun h => h.elim (z 1 (by decide)) (z 4 (by decide))), if_neg (z 3 (by decide)), if_neg (z 5 (by decide))])
    | 1, ho_4, h_4 =>
      obtain rfl : ((55 : Int)) = o_4 := Option.some.inj ho_4
      obtain rfl : t_4 = 59 := by omega
      have hk1 : M.1 5 i 0 = 2 := by (simp only [i32_eq, Int32.le_iff_toInt_le, Int32.lt_iff_toInt_lt, Int32.not_le, Int32.not_lt, Int32.toInt_add, Int32.toInt_sub, Int32.toInt_mul, Int32.toInt_neg, Int32.toInt_div, tdv2, tdv4, tdv10, tdv52, tdv100, nI_T, apply_ite Int32.toInt, Int.bmod, Int32.reduceToInt] at *; omega)
      refine V_iload_n (pc := 59) C 1 dX0_asksBy_59 rfl rfl ?_
      refine V_iret (pc := 60) C hr hlk dX0_asksBy_60 ⟨_, rfl, ?_⟩
      refine ⟨rfl, ?_⟩
      first | (rw [hk1]; rfl) | (rw [pAsks, if_neg (fun h => h.elim (z 1 (by decide)) (z 4 (by decide))), if_neg (z 3 (by decide)), if_neg (z 5 (by decide))])
    | 2, ho_4, h_4 =>
      obtain rfl : ((40 : Int)) = o_4 := Option.some.inj ho_4
      obtain rfl : t_4 = 44 := by omega
      have hk1 : M.1 5 i 0 = 3 := by (simp only [i32_eq, Int32.le_iff_toInt_le, Int32.lt_iff_toInt_lt, Int32.not_le, Int32.not_lt, Int32.toInt_add, Int32.toInt_sub, Int32.toInt_mul, Int32.toInt_neg, Int32.toInt_div, tdv2, tdv4, tdv10, tdv52, tdv100, nI_T, apply_ite Int32.toInt, Int.bmod, Int32.reduceToInt] at *; omega)
      refine V_iload_n (pc := 44) C 1 dX0_asksBy_44 rfl rfl ?_
      refine V_iconst (v := 2) (pc := 45) C dX0_asksBy_45 (by decide) ?_
      refine V_idiv (pc := 46) C dX0_asksBy_46 (by decide) ?_
      refine V_iconst (v := 5) (pc := 47) C dX0_asksBy_47 (by decide) ?_
      refine V_iadd (pc := 48) C dX0_asksBy_48 ?_
      refine V_iret (pc := 49) C hr hlk dX0_asksBy_49 ⟨_, rfl, ?_⟩
      refine ⟨rfl, ?_⟩
      first | (rw [hk1]; rfl) | (rw [pAsks, if_neg (fun h => h.elim (z 1 (by decide)) (z 4 (by decide))), if_neg (z 3 (by decide)), if_neg (z 5 (by decide))])
    | 3, ho_4, h_4 =>
      obtain rfl : ((36 : Int)) = o_4 := Option.some.inj ho_4
      obtain rfl : t_4 = 40 := by omega
      have hk1 : M.1 5 i 0 = 4 := by (simp only [i32_eq, Int32.le_iff_toInt_le, Int32.lt_iff_toInt_lt, Int32.not_le, Int32.not_lt, Int32.toInt_add, Int32.toInt_sub, Int32.toInt_mul, Int32.toInt_neg, Int32.toInt_div, tdv2, tdv4, tdv10, tdv52, tdv100, nI_T, apply_ite Int32.toInt, Int.bmod, Int32.reduceToInt] at *; omega)
      refine V_iload_n (pc := 40) C 1 dX0_asksBy_40 rfl rfl ?_
      refine V_iconst (v := 2) (pc := 41) C dX0_asksBy_41 (by decide) ?_
      refine V_idiv (pc := 42) C dX0_asksBy_42 (by decide) ?_
      refine V_iret (pc := 43) C hr hlk dX0_asksBy_43 ⟨_, rfl, ?_⟩
      refine ⟨rfl, ?_⟩
      first | (rw [hk1]; rfl) | (rw [pAsks, if_neg (fun h => h.elim (z 1 (by decide)) (z 4 (by decide))), if_neg (z 3 (by decide)), if_neg (z 5 (by decide))])
    | 4, ho_4, h_4 =>
      obtain rfl : ((46 : Int)) = o_4 := Option.some.inj ho_4
      obtain rfl : t_4 = 50 := by omega
      have hk1 : M.1 5 i 0 = 5 := by (simp only [i32_eq, Int32.le_iff_toInt_le, Int32.lt_iff_toInt_lt, Int32.not_le, Int32.not_lt, Int32.toInt_add, Int32.toInt_sub, Int32.toInt_mul, Int32.toInt_neg, Int32.toInt_div, tdv2, tdv4, tdv10, tdv52, tdv100, nI_T, apply_ite Int32.toInt, Int.bmod, Int32.reduceToInt] at *; omega)
      refine V_iconst (v := 2) (pc := 50) C dX0_asksBy_50 (by decide) ?_
      refine V_iload_n (pc := 51) C 1 dX0_asksBy_51 rfl rfl ?_
      refine V_imul (pc := 52) C dX0_asksBy_52 ?_
      refine V_aload_n (pc := 53) C 0 dX0_asksBy_53 rfl rfl ?_
      refine get_X0_31 (pc := 54) C (wg hG (by decide) (show i < 7 from hi)) dX0_asksBy_54 ?_
      refine V_iadd (pc := 57) C dX0_asksBy_57 ?_
      refine V_iret (pc := 58) C hr hlk dX0_asksBy_58 ⟨_, rfl, ?_⟩
      refine ⟨rfl, ?_⟩
      first | (rw [hk1]; rfl) | (rw [pAsks, if_neg (fun h => h.elim (z 1 (by decide)) (z 4 (by decide))), if_neg (z 3 (by decide)), if_neg (z 5 (by decide))])
    | _ + 5, ho_4, h_4 => exact absurd ho_4 (by simp)
  · obtain rfl : t_4 = 59 := by omega
    have z : ∀ q : Int32, 1 ≤ q.toInt ∧ q.toInt ≤ 5 → ¬ M.1 5 i 0 = q := fun q hq e => by
      rw [e] at h_4
      omega
    have hk1 : True := trivial
    refine V_iload_n (pc := 59) C 1 dX0_asksBy_59 rfl rfl ?_
    refine V_iret (pc := 60) C hr hlk dX0_asksBy_60 ⟨_, rfl, ?_⟩
    refine ⟨rfl, ?_⟩
    first | (rw [hk1]; rfl) | (rw [pAsks, if_neg (fun h => h.elim (z 1 (by decide)) (z 4 (by decide))), if_neg (z 3 (by decide)), if_neg (z 5 (by decide))])
theorem c_X0_ageIn (hG : 30 ≤ G) (hd : 1 ≤ d) (M : wS) {i : Nat} (hi : i < 7) (n y w : Int32) : Ctr l D cy ad G d yX0_ageIn cX0_ageIn 6 (some .int) [.ref (ad 5 i), .int n, .int y, .int w] M (rI fun x M' => M' = M ∧ x = pAgeC (M.1 5 i 1) y w n) := by
  refine Ctr.of (lv0 := [(0, _), (1, _), (2, _), (3, _)]) (by decide) (Nat.le_of_ble_eq_true rfl) rfl ?_
  intro p e s m args below meth c C hr hlk _
  have C : CX p s m args c cX0_ageIn 6 "CostsAge$Buyer" D cy ad G (wA ad G) (Rm d) d 0 0 := C
  refine V_aload_n (pc := 0) C 0 dX0_ageIn_0 rfl rfl ?_
  refine get_X0_9 (pc := 1) C (wg hG (by decide) (show i < 7 from hi)) dX0_ageIn_1 ?_
  refine V_iload_n (pc := 4) C 3 dX0_ageIn_4 rfl rfl ?_
  refine V_icmp_le (tgt := 17) (pc := 5) C dX0_ageIn_5 (by decide) (fun h_5 => ?_) (fun h_5 => ?_)
  · refine V_aload_n (pc := 17) C 0 dX0_ageIn_17 rfl rfl ?_
    refine get_X0_9 (pc := 18) C (wg hG (by decide) (show i < 7 from hi)) dX0_ageIn_18 ?_
    refine V_iload_n (pc := 21) C 3 dX0_ageIn_21 rfl rfl ?_
    refine V_isub (pc := 22) C dX0_ageIn_22 ?_
    refine V_bipush (v := 52) (pc := 23) C dX0_ageIn_23 (by decide) ?_
    refine V_iadd (pc := 25) C dX0_ageIn_25 ?_
    refine Vs_istore (lv' := [(0, _), (1, _), (2, _), (3, _), (4, _)]) (pc := 26) C dX0_ageIn_26 (by decide) rfl rfl ?_
    refine V_iload_n (pc := 28) C 1 dX0_ageIn_28 rfl rfl ?_
    refine V_iload (pc := 29) C 4 dX0_ageIn_29 rfl ?_
    refine V_icmp_ge (tgt := 38) (pc := 31) C dX0_ageIn_31 (by decide) (fun h_31 => ?_) (fun h_31 => ?_)
    · refine V_iconst (v := 1) (pc := 38) C dX0_ageIn_38 (by decide) ?_
      refine V_iload_n (pc := 39) C 1 dX0_ageIn_39 rfl rfl ?_
      refine V_iload (pc := 40) C 4 dX0_ageIn_40 rfl ?_
      refine V_isub (pc := 42) C dX0_ageIn_42 ?_
      refine V_bipush (v := 52) (pc := 43) C dX0_ageIn_43 (by decide) ?_
      refine V_idiv (pc := 45) C dX0_ageIn_45 (by decide) ?_
      refine V_iadd (pc := 46) C dX0_ageIn_46 ?_
      refine Vs_istore (lv' := [(0, _), (1, _), (2, _), (3, _), (4, _), (5, _)]) (pc := 47) C dX0_ageIn_47 (by decide) rfl rfl ?_
      refine V_bipush (v := 99) (pc := 49) C dX0_ageIn_49 (by decide) ?_
      refine V_iload_n (pc := 51) C 2 dX0_ageIn_51 rfl rfl ?_
      refine V_iload (pc := 52) C 5 dX0_ageIn_52 rfl ?_
      refine V_iadd (pc := 54) C dX0_ageIn_54 ?_
      refine V_mmin (pc := 55) C qm_X0_22 q_mins qn_java_lang_Math q_minc (by omega) (Nat.le_of_ble_eq_true rfl) dX0_ageIn_55 ?_
      refine V_iret (pc := 58) C hr hlk dX0_ageIn_58 ⟨_, rfl, ?_⟩
      refine ⟨rfl, ?_⟩
      have e1 : pAhead (M.1 5 i 1) w = M.1 5 i 1 - w + 52 := if_pos h_5
      rw [pAgeC, pMore, e1, if_pos h_31]
    · refine V_iconst (v := 0) (pc := 34) C dX0_ageIn_34 (by decide) ?_
      refine V_goto (tgt := 47) (pc := 35) C dX0_ageIn_35 (by decide) ?_
      refine Vs_istore (lv' := [(0, _), (1, _), (2, _), (3, _), (4, _), (5, _)]) (pc := 47) C dX0_ageIn_47 (by decide) rfl rfl ?_
      refine V_bipush (v := 99) (pc := 49) C dX0_ageIn_49 (by decide) ?_
      refine V_iload_n (pc := 51) C 2 dX0_ageIn_51 rfl rfl ?_
      refine V_iload (pc := 52) C 5 dX0_ageIn_52 rfl ?_
      refine V_iadd (pc := 54) C dX0_ageIn_54 ?_
      refine V_mmin (pc := 55) C qm_X0_22 q_mins qn_java_lang_Math q_minc (by omega) (Nat.le_of_ble_eq_true rfl) dX0_ageIn_55 ?_
      refine V_iret (pc := 58) C hr hlk dX0_ageIn_58 ⟨_, rfl, ?_⟩
      refine ⟨rfl, ?_⟩
      have e1 : pAhead (M.1 5 i 1) w = M.1 5 i 1 - w + 52 := if_pos h_5
      rw [pAgeC, pMore, e1, if_neg h_31]
  · refine V_aload_n (pc := 8) C 0 dX0_ageIn_8 rfl rfl ?_
    refine get_X0_9 (pc := 9) C (wg hG (by decide) (show i < 7 from hi)) dX0_ageIn_9 ?_
    refine V_iload_n (pc := 12) C 3 dX0_ageIn_12 rfl rfl ?_
    refine V_isub (pc := 13) C dX0_ageIn_13 ?_
    refine V_goto (tgt := 26) (pc := 14) C dX0_ageIn_14 (by decide) ?_
    refine Vs_istore (lv' := [(0, _), (1, _), (2, _), (3, _), (4, _)]) (pc := 26) C dX0_ageIn_26 (by decide) rfl rfl ?_
    refine V_iload_n (pc := 28) C 1 dX0_ageIn_28 rfl rfl ?_
    refine V_iload (pc := 29) C 4 dX0_ageIn_29 rfl ?_
    refine V_icmp_ge (tgt := 38) (pc := 31) C dX0_ageIn_31 (by decide) (fun h_31 => ?_) (fun h_31 => ?_)
    · refine V_iconst (v := 1) (pc := 38) C dX0_ageIn_38 (by decide) ?_
      refine V_iload_n (pc := 39) C 1 dX0_ageIn_39 rfl rfl ?_
      refine V_iload (pc := 40) C 4 dX0_ageIn_40 rfl ?_
      refine V_isub (pc := 42) C dX0_ageIn_42 ?_
      refine V_bipush (v := 52) (pc := 43) C dX0_ageIn_43 (by decide) ?_
      refine V_idiv (pc := 45) C dX0_ageIn_45 (by decide) ?_
      refine V_iadd (pc := 46) C dX0_ageIn_46 ?_
      refine Vs_istore (lv' := [(0, _), (1, _), (2, _), (3, _), (4, _), (5, _)]) (pc := 47) C dX0_ageIn_47 (by decide) rfl rfl ?_
      refine V_bipush (v := 99) (pc := 49) C dX0_ageIn_49 (by decide) ?_
      refine V_iload_n (pc := 51) C 2 dX0_ageIn_51 rfl rfl ?_
      refine V_iload (pc := 52) C 5 dX0_ageIn_52 rfl ?_
      refine V_iadd (pc := 54) C dX0_ageIn_54 ?_
      refine V_mmin (pc := 55) C qm_X0_22 q_mins qn_java_lang_Math q_minc (by omega) (Nat.le_of_ble_eq_true rfl) dX0_ageIn_55 ?_
      refine V_iret (pc := 58) C hr hlk dX0_ageIn_58 ⟨_, rfl, ?_⟩
      refine ⟨rfl, ?_⟩
      have e1 : pAhead (M.1 5 i 1) w = M.1 5 i 1 - w := if_neg h_5
      rw [pAgeC, pMore, e1, if_pos h_31]
    · refine V_iconst (v := 0) (pc := 34) C dX0_ageIn_34 (by decide) ?_
      refine V_goto (tgt := 47) (pc := 35) C dX0_ageIn_35 (by decide) ?_
      refine Vs_istore (lv' := [(0, _), (1, _), (2, _), (3, _), (4, _), (5, _)]) (pc := 47) C dX0_ageIn_47 (by decide) rfl rfl ?_
      refine V_bipush (v := 99) (pc := 49) C dX0_ageIn_49 (by decide) ?_
      refine V_iload_n (pc := 51) C 2 dX0_ageIn_51 rfl rfl ?_
      refine V_iload (pc := 52) C 5 dX0_ageIn_52 rfl ?_
      refine V_iadd (pc := 54) C dX0_ageIn_54 ?_
      refine V_mmin (pc := 55) C qm_X0_22 q_mins qn_java_lang_Math q_minc (by omega) (Nat.le_of_ble_eq_true rfl) dX0_ageIn_55 ?_
      refine V_iret (pc := 58) C hr hlk dX0_ageIn_58 ⟨_, rfl, ?_⟩
      refine ⟨rfl, ?_⟩
      have e1 : pAhead (M.1 5 i 1) w = M.1 5 i 1 - w := if_neg h_5
      rw [pAgeC, pMore, e1, if_neg h_31]
end S10
