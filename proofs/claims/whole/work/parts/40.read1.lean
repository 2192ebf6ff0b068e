section S40
variable {l : Launch} {D : va_G} {cy : Nat → ClassId} {ad : Nat → Nat → Nat} {G d : Nat}
theorem c_X3_isLetter (M : wS) (v : Int32) : Ctr l D cy ad G d yX3_isLetter cX3_isLetter 1 (some .boolean) [.int v] M (rI fun x M' => M' = M ∧ x = bI (97 ≤ v ∧ v ≤ 122)) := by
  refine Ctr.of (lv0 := [(0, _)]) (by decide) (Nat.le_of_ble_eq_true rfl) rfl ?_
  intro p e s m args below meth c C hr hlk _
  have C : CX p s m args c cX3_isLetter 1 "CostsAge$Reader" D cy ad G (wA ad G) (Rm d) d 0 0 := C
  refine V_iload_n (pc := 0) C 0 dX3_isLetter_0 rfl rfl ?_
  refine V_bipush (v := 97) (pc := 1) C dX3_isLetter_1 (by decide) ?_
  refine V_icmp_lt (tgt := 16) (pc := 3) C dX3_isLetter_3 (by decide) (fun h_3 => ?_) (fun h_3 => ?_)
  · refine V_iconst (v := 0) (pc := 16) C dX3_isLetter_16 (by decide) ?_
    refine V_zret (pc := 17) C hr hlk rfl dX3_isLetter_17 ⟨_, rfl, ?_⟩
    first | exact ⟨rfl, bI_t ⟨by (simp only [i32_eq, Int32.le_iff_toInt_le, Int32.lt_iff_toInt_lt, Int32.not_le, Int32.not_lt, Int32.toInt_add, Int32.toInt_sub, Int32.toInt_mul, Int32.toInt_neg, Int32.toInt_div, tdv2, tdv4, tdv10, tdv52, tdv100, nI_T, apply_ite Int32.toInt, Int.bmod, Int32.reduceToInt] at *; omega), by (simp only [i32_eq, Int32.le_iff_toInt_le, Int32.lt_iff_toInt_lt, Int32.not_le, Int32.not_lt, Int32.toInt_add, Int32.toInt_sub, Int32.toInt_mul, Int32.toInt_neg, Int32.toInt_div, tdv2, tdv4, tdv10, tdv52, tdv100, nI_T, apply_ite Int32.toInt, Int.bmod, Int32.reduceToInt] at *; omega)⟩⟩ | exact ⟨rfl, bI_f (fun z => absurd z.1 (by (simp only [i32_eq, Int32.le_iff_toInt_le, Int32.lt_iff_toInt_lt, Int32.not_le, Int32.not_lt, Int32.toInt_add, Int32.toInt_sub, Int32.toInt_mul, Int32.toInt_neg, Int32.toInt_div, tdv2, tdv4, tdv10, tdv52, tdv100, nI_T, apply_ite Int32.toInt, Int.bmod, Int32.reduceToInt] at *; omega)))⟩ | exact ⟨rfl, bI_f (fun z => absurd z.2 (by (simp only [i32_eq, Int32.le_iff_toInt_le, Int32.lt_iff_toInt_lt, Int32.not_le, Int32.not_lt, Int32.toInt_add, Int32.toInt_sub, Int32.toInt_mul, Int32.toInt_neg, Int32.toInt_div, tdv2, tdv4, tdv10, tdv52, tdv100, nI_T, apply_ite Int32.toInt, Int.bmod, Int32.reduceToInt] at *; omega)))⟩
  · refine V_iload_n (pc := 6) C 0 dX3_isLetter_6 rfl rfl ?_
    refine V_bipush (v := 122) (pc := 7) C dX3_isLetter_7 (by decide) ?_
    refine V_icmp_gt (tgt := 16) (pc := 9) C dX3_isLetter_9 (by decide) (fun h_9 => ?_) (fun h_9 => ?_)
    · refine V_iconst (v := 0) (pc := 16) C dX3_isLetter_16 (by decide) ?_
      refine V_zret (pc := 17) C hr hlk rfl dX3_isLetter_17 ⟨_, rfl, ?_⟩
      first | exact ⟨rfl, bI_t ⟨by (simp only [i32_eq, Int32.le_iff_toInt_le, Int32.lt_iff_toInt_lt, Int32.not_le, Int32.not_lt, Int32.toInt_add, Int32.toInt_sub, Int32.toInt_mul, Int32.toInt_neg, Int32.toInt_div, tdv2, tdv4, tdv10, tdv52, tdv100, nI_T, apply_ite Int32.toInt, Int.bmod, Int32.reduceToInt] at *; omega), by (simp only [i32_eq, Int32.le_iff_toInt_le, Int32.lt_iff_toInt_lt, Int32.not_le, Int32.not_lt, Int32.toInt_add, Int32.toInt_sub, Int32.toInt_mul, Int32.toInt_neg, Int32.toInt_div, tdv2, tdv4, tdv10, tdv52, tdv100, nI_T, apply_ite Int32.toInt, Int.bmod, Int32.reduceToInt] at *; omega)⟩⟩ | exact ⟨rfl, bI_f (fun z => absurd z.1 (by (simp only [i32_eq, Int32.le_iff_toInt_le, Int32.lt_iff_toInt_lt, Int32.not_le, Int32.not_lt, Int32.toInt_add, Int32.toInt_sub, Int32.toInt_mul, Int32.toInt_neg, Int32.toInt_div, tdv2, tdv4, tdv10, tdv52, tdv100, nI_T, apply_ite Int32.toInt, Int.bmod, Int32.reduceToInt] at *; omega)))⟩ | exact ⟨rfl, bI_f (fun z => absurd z.2 (by (simp only [i32_eq, Int32.le_iff_toInt_le, Int32.lt_iff_toInt_lt, Int32.not_le, Int32.not_lt, Int32.toInt_add, Int32.toInt_sub, Int32.toInt_mul, Int32.toInt_neg, Int32.toInt_div, tdv2, tdv4, tdv10, tdv52, tdv100, nI_T, apply_ite Int32.toInt, Int.bmod, Int32.reduceToInt] at *; omega)))⟩
    · refine V_iconst (v := 1) (pc := 12) C dX3_isLetter_12 (by decide) ?_
      refine V_goto (tgt := 17) (pc := 13) C dX3_isLetter_13 (by decide) ?_
      refine V_zret (pc := 17) C hr hlk rfl dX3_isLetter_17 ⟨_, rfl, ?_⟩
      first | exact ⟨rfl, bI_t ⟨by (simp only [i32_eq, Int32.le_iff_toInt_le, Int32.lt_iff_toInt_lt, Int32.not_le, Int32.not_lt, Int32.toInt_add, Int32.toInt_sub, Int32.toInt_mul, Int32.toInt_neg, Int32.toInt_div, tdv2, tdv4, tdv10, tdv52, tdv100, nI_T, apply_ite Int32.toInt, Int.bmod, Int32.reduceToInt] at *; omega), by (simp only [i32_eq, Int32.le_iff_toInt_le, Int32.lt_iff_toInt_lt, Int32.not_le, Int32.not_lt, Int32.toInt_add, Int32.toInt_sub, Int32.toInt_mul, Int32.toInt_neg, Int32.toInt_div, tdv2, tdv4, tdv10, tdv52, tdv100, nI_T, apply_ite Int32.toInt, Int.bmod, Int32.reduceToInt] at *; omega)⟩⟩ | exact ⟨rfl, bI_f (fun z => absurd z.1 (by (simp only [i32_eq, Int32.le_iff_toInt_le, Int32.lt_iff_toInt_lt, Int32.not_le, Int32.not_lt, Int32.toInt_add, Int32.toInt_sub, Int32.toInt_mul, Int32.toInt_neg, Int32.toInt_div, tdv2, tdv4, tdv10, tdv52, tdv100, nI_T, apply_ite Int32.toInt, Int.bmod, Int32.reduceToInt] at *; omega)))⟩ | exact ⟨rfl, bI_f (fun z => absurd z.2 (by (simp only [i32_eq, Int32.le_iff_toInt_le, Int32.lt_iff_toInt_lt, Int32.not_le, Int32.not_lt, Int32.toInt_add, Int32.toInt_sub, Int32.toInt_mul, Int32.toInt_neg, Int32.toInt_div, tdv2, tdv4, tdv10, tdv52, tdv100, nI_T, apply_ite Int32.toInt, Int.bmod, Int32.reduceToInt] at *; omega)))⟩
theorem c_X3_isDigit (M : wS) (v : Int32) : Ctr l D cy ad G d yX3_isDigit cX3_isDigit 1 (some .boolean) [.int v] M (rI fun x M' => M' = M ∧ x = bI (48 ≤ v ∧ v ≤ 57)) := by
  refine Ctr.of (lv0 := [(0, _)]) (by decide) (Nat.le_of_ble_eq_true rfl) rfl ?_
  intro p e s m args below meth c C hr hlk _
  have C : CX p s m args c cX3_isDigit 1 "CostsAge$Reader" D cy ad G (wA ad G) (Rm d) d 0 0 := C
  refine V_iload_n (pc := 0) C 0 dX3_isDigit_0 rfl rfl ?_
  refine V_bipush (v := 48) (pc := 1) C dX3_isDigit_1 (by decide) ?_
  refine V_icmp_lt (tgt := 16) (pc := 3) C dX3_isDigit_3 (by decide) (fun h_3 => ?_) (fun h_3 => ?_)
  · refine V_iconst (v := 0) (pc := 16) C dX3_isDigit_16 (by decide) ?_
    refine V_zret (pc := 17) C hr hlk rfl dX3_isDigit_17 ⟨_, rfl, ?_⟩
    first | exact ⟨rfl, bI_t ⟨by (simp only [i32_eq, Int32.le_iff_toInt_le, Int32.lt_iff_toInt_lt, Int32.not_le, Int32.not_lt, Int32.toInt_add, Int32.toInt_sub, Int32.toInt_mul, Int32.toInt_neg, Int32.toInt_div, tdv2, tdv4, tdv10, tdv52, tdv100, nI_T, apply_ite Int32.toInt, Int.bmod, Int32.reduceToInt] at *; omega), by (simp only [i32_eq, Int32.le_iff_toInt_le, Int32.lt_iff_toInt_lt, Int32.not_le, Int32.not_lt, Int32.toInt_add, Int32.toInt_sub, Int32.toInt_mul, Int32.toInt_neg, Int32.toInt_div, tdv2, tdv4, tdv10, tdv52, tdv100, nI_T, apply_ite Int32.toInt, Int.bmod, Int32.reduceToInt] at *; omega)⟩⟩ | exact ⟨rfl, bI_f (fun z => absurd z.1 (by (simp only [i32_eq, Int32.le_iff_toInt_le, Int32.lt_iff_toInt_lt, Int32.not_le, Int32.not_lt, Int32.toInt_add, Int32.toInt_sub, Int32.toInt_mul, Int32.toInt_neg, Int32.toInt_div, tdv2, tdv4, tdv10, tdv52, tdv100, nI_T, apply_ite Int32.toInt, Int.bmod, Int32.reduceToInt] at *; omega)))⟩ | exact ⟨rfl, bI_f (fun z => absurd z.2 (by (simp only [i32_eq, Int32.le_iff_toInt_le, Int32.lt_iff_toInt_lt, Int32.not_le, Int32.not_lt, Int32.toInt_add, Int32.toInt_sub, Int32.toInt_mul, Int32.toInt_neg, Int32.toInt_div, tdv2, tdv4, tdv10, tdv52, tdv100, nI_T, apply_ite Int32.toInt, Int.bmod, Int32.reduceToInt] at *; omega)))⟩
  · refine V_iload_n (pc := 6) C 0 dX3_isDigit_6 rfl rfl ?_
    refine V_bipush (v := 57) (pc := 7) C dX3_isDigit_7 (by decide) ?_
    refine V_icmp_gt (tgt := 16) (pc := 9) C dX3_isDigit_9 (by decide) (fun h_9 => ?_) (fun h_9 => ?_)
    · refine V_iconst (v := 0) (pc := 16) C dX3_isDigit_16 (by decide) ?_
      refine V_zret (pc := 17) C hr hlk rfl dX3_isDigit_17 ⟨_, rfl, ?_⟩
      first | exact ⟨rfl, bI_t ⟨by (simp only [i32_eq, Int32.le_iff_toInt_le, Int32.lt_iff_toInt_lt, Int32.not_le, Int32.not_lt, Int32.toInt_add, Int32.toInt_sub, Int32.toInt_mul, Int32.toInt_neg, Int32.toInt_div, tdv2, tdv4, tdv10, tdv52, tdv100, nI_T, apply_ite Int32.toInt, Int.bmod, Int32.reduceToInt] at *; omega), by (simp only [i32_eq, Int32.le_iff_toInt_le, Int32.lt_iff_toInt_lt, Int32.not_le, Int32.not_lt, Int32.toInt_add, Int32.toInt_sub, Int32.toInt_mul, Int32.toInt_neg, Int32.toInt_div, tdv2, tdv4, tdv10, tdv52, tdv100, nI_T, apply_ite Int32.toInt, Int.bmod, Int32.reduceToInt] at *; omega)⟩⟩ | exact ⟨rfl, bI_f (fun z => absurd z.1 (by (simp only [i32_eq, Int32.le_iff_toInt_le, Int32.lt_iff_toInt_lt, Int32.not_le, Int32.not_lt, Int32.toInt_add, Int32.toInt_sub, Int32.toInt_mul, Int32.toInt_neg, Int32.toInt_div, tdv2, tdv4, tdv10, tdv52, tdv100, nI_T, apply_ite Int32.toInt, Int.bmod, Int32.reduceToInt] at *; omega)))⟩ | exact ⟨rfl, bI_f (fun z => absurd z.2 (by (simp only [i32_eq, Int32.le_iff_toInt_le, Int32.lt_iff_toInt_lt, Int32.not_le, Int32.not_lt, Int32.toInt_add, Int32.toInt_sub, Int32.toInt_mul, Int32.toInt_neg, Int32.toInt_div, tdv2, tdv4, tdv10, tdv52, tdv100, nI_T, apply_ite Int32.toInt, Int.bmod, Int32.reduceToInt] at *; omega)))⟩
    · refine V_iconst (v := 1) (pc := 12) C dX3_isDigit_12 (by decide) ?_
      refine V_goto (tgt := 17) (pc := 13) C dX3_isDigit_13 (by decide) ?_
      refine V_zret (pc := 17) C hr hlk rfl dX3_isDigit_17 ⟨_, rfl, ?_⟩
      first | exact ⟨rfl, bI_t ⟨by (simp only [i32_eq, Int32.le_iff_toInt_le, Int32.lt_iff_toInt_lt, Int32.not_le, Int32.not_lt, Int32.toInt_add, Int32.toInt_sub, Int32.toInt_mul, Int32.toInt_neg, Int32.toInt_div, tdv2, tdv4, tdv10, tdv52, tdv100, nI_T, apply_ite Int32.toInt, Int.bmod, Int32.reduceToInt] at *; omega), by (simp only [i32_eq, Int32.le_iff_toInt_le, Int32.lt_iff_toInt_lt, Int32.not_le, Int32.not_lt, Int32.toInt_add, Int32.toInt_sub, Int32.toInt_mul, Int32.toInt_neg, Int32.toInt_div, tdv2, tdv4, tdv10, tdv52, tdv100, nI_T, apply_ite Int32.toInt, Int.bmod, Int32.reduceToInt] at *; omega)⟩⟩ | exact ⟨rfl, bI_f (fun z => absurd z.1 (by (simp only [i32_eq, Int32.le_iff_toInt_le, Int32.lt_iff_toInt_lt, Int32.not_le, Int32.not_lt, Int32.toInt_add, Int32.toInt_sub, Int32.toInt_mul, Int32.toInt_neg, Int32.toInt_div, tdv2, tdv4, tdv10, tdv52, tdv100, nI_T, apply_ite Int32.toInt, Int.bmod, Int32.reduceToInt] at *; omega)))⟩ | exact ⟨rfl, bI_f (fun z => absurd z.2 (by (simp only [i32_eq, Int32.le_iff_toInt_le, Int32.lt_iff_toInt_lt, Int32.not_le, Int32.not_lt, Int32.toInt_add, Int32.toInt_sub, Int32.toInt_mul, Int32.toInt_neg, Int32.toInt_div, tdv2, tdv4, tdv10, tdv52, tdv100, nI_T, apply_ite Int32.toInt, Int.bmod, Int32.reduceToInt] at *; omega)))⟩
def pSign (v : Int32) : Bool := [40, 41, 59, 43, 45, 42, 60, 61].contains v
theorem c_X3_isSign (M : wS) (v : Int32) : Ctr l D cy ad G d yX3_isSign cX3_isSign 1 (some .boolean) [.int v] M (rI fun x M' => M' = M ∧ x = bI (pSign v = true)) := by
  refine Ctr.of (lv0 := [(0, _)]) (by decide) (Nat.le_of_ble_eq_true rfl) rfl ?_
  intro p e s m args below meth c C hr hlk _
  have C : CX p s m args c cX3_isSign 1 "CostsAge$Reader" D cy ad G (wA ad G) (Rm d) d 0 0 := C
  refine V_iload_n (pc := 0) C 0 dX3_isSign_0 rfl rfl ?_
  refine V_bipush (v := 40) (pc := 1) C dX3_isSign_1 (by decide) ?_
  refine V_icmp_eq (tgt := 48) (pc := 3) C dX3_isSign_3 (by decide) (fun h_3 => ?_) (fun h_3 => ?_)
  · refine V_iconst (v := 1) (pc := 48) C dX3_isSign_48 (by decide) ?_
    refine V_goto (tgt := 53) (pc := 49) C dX3_isSign_49 (by decide) ?_
    refine V_zret (pc := 53) C hr hlk rfl dX3_isSign_53 ⟨_, rfl, ?_⟩
    first | exact ⟨rfl, bI_t (by simp [pSign, *])⟩ | exact ⟨rfl, bI_f (by simp [pSign, *])⟩
  · refine V_iload_n (pc := 6) C 0 dX3_isSign_6 rfl rfl ?_
    refine V_bipush (v := 41) (pc := 7) C dX3_isSign_7 (by decide) ?_
    refine V_icmp_eq (tgt := 48) (pc := 9) C dX3_isSign_9 (by decide) (fun h_9 => ?_) (fun h_9 => ?_)
    · refine V_iconst (v := 1) (pc := 48) C dX3_isSign_48 (by decide) ?_
      refine V_goto (tgt := 53) (pc := 49) C dX3_isSign_49 (by decide) ?_
      refine V_zret (pc := 53) C hr hlk rfl dX3_isSign_53 ⟨_, rfl, ?_⟩
      first | exact ⟨rfl, bI_t (by simp [pSign, *])⟩ | exact ⟨rfl, bI_f (by simp [pSign, *])⟩
    · refine V_iload_n (pc := 12) C 0 dX3_isSign_12 rfl rfl ?_
      refine V_bipush (v := 59) (pc := 13) C dX3_isSign_13 (by decide) ?_
      refine V_icmp_eq (tgt := 48) (pc := 15) C dX3_isSign_15 (by decide) (fun h_15 => ?_) (fun h_15 => ?_)
      · refine V_iconst (v := 1) (pc := 48) C dX3_isSign_48 (by decide) ?_
        refine V_goto (tgt := 53) (pc := 49) C dX3_isSign_49 (by decide) ?_
        refine V_zret (pc := 53) C hr hlk rfl dX3_isSign_53 ⟨_, rfl, ?_⟩
        first | exact ⟨rfl, bI_t (by simp [pSign, *])⟩ | exact ⟨rfl, bI_f (by simp [pSign, *])⟩
      · refine V_iload_n (pc := 18) C 0 dX3_isSign_18 rfl rfl ?_
        refine V_bipush (v := 43) (pc := 19) C dX3_isSign_19 (by decide) ?_
        refine V_icmp_eq (tgt := 48) (pc := 21) C dX3_isSign_21 (by decide) (fun h_21 => ?_) (fun h_21 => ?_)
        · refine V_iconst (v := 1) (pc := 48) C dX3_isSign_48 (by decide) ?_
          refine V_goto (tgt := 53) (pc := 49) C dX3_isSign_49 (by decide) ?_
          refine V_zret (pc := 53) C hr hlk rfl dX3_isSign_53 ⟨_, rfl, ?_⟩
          first | exact ⟨rfl, bI_t (by simp [pSign, *])⟩ | exact ⟨rfl, bI_f (by simp [pSign, *])⟩
        · refine V_iload_n (pc := 24) C 0 dX3_isSign_24 rfl rfl ?_
          refine V_bipush (v := 45) (pc := 25) C dX3_isSign_25 (by decide) ?_
          refine V_icmp_eq (tgt := 48) (pc := 27) C dX3_isSign_27 (by decide) (fun h_27 => ?_) (fun h_27 => ?_)
          · refine V_iconst (v := 1) (pc := 48) C dX3_isSign_48 (by decide) ?_
            refine V_goto (tgt := 53) (pc := 49) C dX3_isSign_49 (by decide) ?_
            refine V_zret (pc := 53) C hr hlk rfl dX3_isSign_53 ⟨_, rfl, ?_⟩
            first | exact ⟨rfl, bI_t (by simp [pSign, *])⟩ | exact ⟨rfl, bI_f (by simp [pSign, *])⟩
          · refine V_iload_n (pc := 30) C 0 dX3_isSign_30 rfl rfl ?_
            refine V_bipush (v := 42) (pc := 31) C dX3_isSign_31 (by decide) ?_
            refine V_icmp_eq (tgt := 48) (pc := 33) C dX3_isSign_33 (by decide) (fun h_33 => ?_) (fun h_33 => ?_)
            · refine V_iconst (v := 1) (pc := 48) C dX3_isSign_48 (by decide) ?_
              refine V_goto (tgt := 53) (pc := 49) C dX3_isSign_49 (by decide) ?_
              refine V_zret (pc := 53) C hr hlk rfl dX3_isSign_53 ⟨_, rfl, ?_⟩
              first | exact ⟨rfl, bI_t (by simp [pSign, *])⟩ | exact ⟨rfl, bI_f (by simp [pSign, *])⟩
            · refine V_iload_n (pc := 36) C 0 dX3_isSign_36 rfl rfl ?_
              refine V_bipush (v := 60) (pc := 37) C dX3_isSign_37 (by decide) ?_
              refine V_icmp_eq (tgt := 48) (pc := 39) C dX3_isSign_39 (by decide) (fun h_39 => ?_) (fun h_39 => ?_)
              · refine V_iconst (v := 1) (pc := 48) C dX3_isSign_48 (by decide) ?_
                refine V_goto (tgt := 53) (pc := 49) C dX3_isSign_49 (by decide) ?_
                refine V_zret (pc := 53) C hr hlk rfl dX3_isSign_53 ⟨_, rfl, ?_⟩
                first | exact ⟨rfl, bI_t (by simp [pSign, *])⟩ | exact ⟨rfl, bI_f (by simp [pSign, *])⟩
              · refine V_iload_n (pc := 42) C 0 dX3_isSign_42 rfl rfl ?_
                refine V_bipush (v := 61) (pc := 43) C dX3_isSign_43 (by decide) ?_
                refine V_icmp_ne (tgt := 52) (pc := 45) C dX3_isSign_45 (by decide) (fun h_45 => ?_) (fun h_45 => ?_)
                · refine V_iconst (v := 0) (pc := 52) C dX3_isSign_52 (by decide) ?_
                  refine V_zret (pc := 53) C hr hlk rfl dX3_isSign_53 ⟨_, rfl, ?_⟩
                  first | exact ⟨rfl, bI_t (by simp [pSign, *])⟩ | exact ⟨rfl, bI_f (by simp [pSign, *])⟩
                · refine V_iconst (v := 1) (pc := 48) C dX3_isSign_48 (by decide) ?_
                  refine V_goto (tgt := 53) (pc := 49) C dX3_isSign_49 (by decide) ?_
                  refine V_zret (pc := 53) C hr hlk rfl dX3_isSign_53 ⟨_, rfl, ?_⟩
                  first | exact ⟨rfl, bI_t (by simp [pSign, *])⟩ | exact ⟨rfl, bI_f (by simp [pSign, *])⟩
def kRef (M : wS) : wS := mset (if M.1 11 0 6 = -1 then mset M 11 0 6 (M.1 11 0 3) else M) 11 0 4 (-1)
theorem c_X3_refuse (hG : 30 ≤ G) (M : wS) : Ctr l D cy ad G d yX3_refuse cX3_refuse 1 none [.ref (ad 11 0)] M (rV fun M' => M' = kRef M) := by
  refine Ctr.of (lv0 := [(0, _)]) (by decide) (Nat.le_of_ble_eq_true rfl) rfl ?_
  intro p e s m args below meth c C hr hlk _
  have C : CX p s m args c cX3_refuse 1 "CostsAge$Reader" D cy ad G (wA ad G) (Rm d) d 0 0 := C
  refine V_aload_n (pc := 0) C 0 dX3_refuse_0 rfl rfl ?_
  refine get_X3_25 (pc := 1) C (wg hG (by decide) (by decide)) dX3_refuse_1 ?_
  refine V_iconst (v := -1) (pc := 4) C dX3_refuse_4 (by decide) ?_
  refine V_icmp_ne (tgt := 16) (pc := 5) C dX3_refuse_5 (by decide) (fun h_5 => ?_) (fun h_5 => ?_)
  · refine V_aload_n (pc := 16) C 0 dX3_refuse_16 rfl rfl ?_
    refine V_iconst (v := -1) (pc := 17) C dX3_refuse_17 (by decide) ?_
    refine put_X3_49 (pc := 18) C (wg hG (by decide) (by decide)) dX3_refuse_18 ?_
    refine V_vret (pc := 21) C hr hlk dX3_refuse_21 ⟨rfl, ?_⟩
    first | (rw [kRef, if_neg h_5]) | (rw [kRef, if_pos h_5])
  · refine V_aload_n (pc := 8) C 0 dX3_refuse_8 rfl rfl ?_
    refine V_aload_n (pc := 9) C 0 dX3_refuse_9 rfl rfl ?_
    refine get_X3_88 (pc := 10) C (wg hG (by decide) (by decide)) dX3_refuse_10 ?_
    refine put_X3_25 (pc := 13) C (wg hG (by decide) (by decide)) dX3_refuse_13 ?_
    refine V_aload_n (pc := 16) C 0 dX3_refuse_16 rfl rfl ?_
    refine V_iconst (v := -1) (pc := 17) C dX3_refuse_17 (by decide) ?_
    refine put_X3_49 (pc := 18) C (wg hG (by decide) (by decide)) dX3_refuse_18 ?_
    refine V_vret (pc := 21) C hr hlk dX3_refuse_21 ⟨rfl, ?_⟩
    first | (rw [kRef, if_neg h_5]) | (rw [kRef, if_pos h_5])
theorem c_X3_mayOpen (hG : 30 ≤ G) (hd : 1 ≤ d) (M : wS) (o : Int32) : Ctr l D cy ad G d yX3_mayOpen cX3_mayOpen 2 (some .boolean) [.ref (ad 11 0), .int o] M (rI fun x M' => M' = (if o < 5 then M else kRef M) ∧ x = bI (o < 5)) := by
  refine Ctr.of (lv0 := [(0, _), (1, _)]) (by decide) (Nat.le_of_ble_eq_true rfl) rfl ?_
  intro p e s m args below meth c C hr hlk _
  have C : CX p s m args c cX3_mayOpen 2 "CostsAge$Reader" D cy ad G (wA ad G) (Rm d) d 0 0 := C
  refine V_iload_n (pc := 0) C 1 dX3_mayOpen_0 rfl rfl ?_
  refine V_iconst (v := 5) (pc := 1) C dX3_mayOpen_1 (by decide) ?_
  refine V_icmp_lt (tgt := 9) (pc := 2) C dX3_mayOpen_2 (by decide) (fun h_2 => ?_) (fun h_2 => ?_)
  · refine V_iload_n (pc := 9) C 1 dX3_mayOpen_9 rfl rfl ?_
    refine V_iconst (v := 5) (pc := 10) C dX3_mayOpen_10 (by decide) ?_
    refine V_icmp_ge (tgt := 18) (pc := 11) C dX3_mayOpen_11 (by decide) (fun h_11 => ?_) (fun h_11 => ?_)
    · refine V_iconst (v := 0) (pc := 18) C dX3_mayOpen_18 (by decide) ?_
      refine V_zret (pc := 19) C hr hlk rfl dX3_mayOpen_19 ⟨_, rfl, ?_⟩
      first | exact ⟨(if_pos (by (simp only [i32_eq, Int32.le_iff_toInt_le, Int32.lt_iff_toInt_lt, Int32.not_le, Int32.not_lt, Int32.toInt_add, Int32.toInt_sub, Int32.toInt_mul, Int32.toInt_neg, Int32.toInt_div, tdv2, tdv4, tdv10, tdv52, tdv100, nI_T, apply_ite Int32.toInt, Int.bmod, Int32.reduceToInt] at *; omega))).symm, bI_t (by (simp only [i32_eq, Int32.le_iff_toInt_le, Int32.lt_iff_toInt_lt, Int32.not_le, Int32.not_lt, Int32.toInt_add, Int32.toInt_sub, Int32.toInt_mul, Int32.toInt_neg, Int32.toInt_div, tdv2, tdv4, tdv10, tdv52, tdv100, nI_T, apply_ite Int32.toInt, Int.bmod, Int32.reduceToInt] at *; omega))⟩ | exact ⟨(if_neg (by (simp only [i32_eq, Int32.le_iff_toInt_le, Int32.lt_iff_toInt_lt, Int32.not_le, Int32.not_lt, Int32.toInt_add, Int32.toInt_sub, Int32.toInt_mul, Int32.toInt_neg, Int32.toInt_div, tdv2, tdv4, tdv10, tdv52, tdv100, nI_T, apply_ite Int32.toInt, Int.bmod, Int32.reduceToInt] at *; omega))).symm, bI_f (by (simp only [i32_eq, Int32.le_iff_toInt_le, Int32.lt_iff_toInt_lt, Int32.not_le, Int32.not_lt, Int32.toInt_add, Int32.toInt_sub, Int32.toInt_mul, Int32.toInt_neg, Int32.toInt_div, tdv2, tdv4, tdv10, tdv52, tdv100, nI_T, apply_ite Int32.toInt, Int.bmod, Int32.reduceToInt] at *; omega))⟩ | exact absurd h_11 (by (simp only [i32_eq, Int32.le_iff_toInt_le, Int32.lt_iff_toInt_lt, Int32.not_le, Int32.not_lt, Int32.toInt_add, Int32.toInt_sub, Int32.toInt_mul, Int32.toInt_neg, Int32.toInt_div, tdv2, tdv4, tdv10, tdv52, tdv100, nI_T, apply_ite Int32.toInt, Int.bmod, Int32.reduceToInt] at *; omega))
    · refine V_iconst (v := 1) (pc := 14) C dX3_mayOpen_14 (by decide) ?_
      refine V_goto (tgt := 19) (pc := 15) C dX3_mayOpen_15 (by decide) ?_
      refine V_zret (pc := 19) C hr hlk rfl dX3_mayOpen_19 ⟨_, rfl, ?_⟩
      first | exact ⟨(if_pos (by (simp only [i32_eq, Int32.le_iff_toInt_le, Int32.lt_iff_toInt_lt, Int32.not_le, Int32.not_lt, Int32.toInt_add, Int32.toInt_sub, Int32.toInt_mul, Int32.toInt_neg, Int32.toInt_div, tdv2, tdv4, tdv10, tdv52, tdv100, nI_T, apply_ite Int32.toInt, Int.bmod, Int32.reduceToInt] at *; omega))).symm, bI_t (by (simp only [i32_eq, Int32.le_iff_toInt_le, Int32.lt_iff_toInt_lt, Int32.not_le, Int32.not_lt, Int32.toInt_add, Int32.toInt_sub, Int32.toInt_mul, Int32.toInt_neg, Int32.toInt_div, tdv2, tdv4, tdv10, tdv52, tdv100, nI_T, apply_ite Int32.toInt, Int.bmod, Int32.reduceToInt] at *; omega))⟩ | exact ⟨(if_neg (by (simp only [i32_eq, Int32.le_iff_toInt_le, Int32.lt_iff_toInt_lt, Int32.not_le, Int32.not_lt, Int32.toInt_add, Int32.toInt_sub, Int32.toInt_mul, Int32.toInt_neg, Int32.toInt_div, tdv2, tdv4, tdv10, tdv52, tdv100, nI_T, apply_ite Int32.toInt, Int.bmod, Int32.reduceToInt] at *; omega))).symm, bI_f (by (simp only [i32_eq, Int32.le_iff_toInt_le, Int32.lt_iff_toInt_lt, Int32.not_le, Int32.not_lt, Int32.toInt_add, Int32.toInt_sub, Int32.toInt_mul, Int32.toInt_neg, Int32.toInt_div, tdv2, tdv4, tdv10, tdv52, tdv100, nI_T, apply_ite Int32.toInt, Int.bmod, Int32.reduceToInt] at *; omega))⟩ | exact absurd h_11 (by (simp only [i32_eq, Int32.le_iff_toInt_le, Int32.lt_iff_toInt_lt, Int32.not_le, Int32.not_lt, Int32.toInt_add, Int32.toInt_sub, Int32.toInt_mul, Int32.toInt_neg, Int32.toInt_div, tdv2, tdv4, tdv10, tdv52, tdv100, nI_T, apply_ite Int32.toInt, Int.bmod, Int32.reduceToInt] at *; omega))
  · refine V_aload_n (pc := 5) C 0 dX3_mayOpen_5 rfl rfl ?_
    refine call_X3_52 (pc := 6) C (c_X3_refuse (d := d - 1) hG M) (by omega) (wg hG (by decide) (by decide)) (Nat.le_of_ble_eq_true rfl) dX3_mayOpen_6 (fun M_6 h_6 => ?_)
    have e_6 := h_6.symm
    subst e_6
    refine V_iload_n (pc := 9) C 1 dX3_mayOpen_9 rfl rfl ?_
    refine V_iconst (v := 5) (pc := 10) C dX3_mayOpen_10 (by decide) ?_
    refine V_icmp_ge (tgt := 18) (pc := 11) C dX3_mayOpen_11 (by decide) (fun h_11 => ?_) (fun h_11 => ?_)
    · refine V_iconst (v := 0) (pc := 18) C dX3_mayOpen_18 (by decide) ?_
      refine V_zret (pc := 19) C hr hlk rfl dX3_mayOpen_19 ⟨_, rfl, ?_⟩
      first | exact ⟨(if_pos (by (simp only [i32_eq, Int32.le_iff_toInt_le, Int32.lt_iff_toInt_lt, Int32.not_le, Int32.not_lt, Int32.toInt_add, Int32.toInt_sub, Int32.toInt_mul, Int32.toInt_neg, Int32.toInt_div, tdv2, tdv4, tdv10, tdv52, tdv100, nI_T, apply_ite Int32.toInt, Int.bmod, Int32.reduceToInt] at *; omega))).symm, bI_t (by (simp only [i32_eq, Int32.le_iff_toInt_le, Int32.lt_iff_toInt_lt, Int32.not_le, Int32.not_lt, Int32.toInt_add, Int32.toInt_sub, Int32.toInt_mul, Int32.toInt_neg, Int32.toInt_div, tdv2, tdv4, tdv10, tdv52, tdv100, nI_T, apply_ite Int32.toInt, Int.bmod, Int32.reduceToInt] at *; omega))⟩ | exact ⟨(if_neg (by (simp only [i32_eq, Int32.le_iff_toInt_le, Int32.lt_iff_toInt_lt, Int32.not_le, Int32.not_lt, Int32.toInt_add, Int32.toInt_sub, Int32.toInt_mul, Int32.toInt_neg, Int32.toInt_div, tdv2, tdv4, tdv10, tdv52, tdv100, nI_T, apply_ite Int32.toInt, Int.bmod, Int32.reduceToInt] at *; omega))).symm, bI_f (by (simp only [i32_eq, Int32.le_iff_toInt_le, Int32.lt_iff_toInt_lt, Int32.not_le, Int32.not_lt, Int32.toInt_add, Int32.toInt_sub, Int32.toInt_mul, Int32.toInt_neg, Int32.toInt_div, tdv2, tdv4, tdv10, tdv52, tdv100, nI_T, apply_ite Int32.toInt, Int.bmod, Int32.reduceToInt] at *; omega))⟩ | exact absurd h_11 (by (simp only [i32_eq, Int32.le_iff_toInt_le, Int32.lt_iff_toInt_lt, Int32.not_le, Int32.not_lt, Int32.toInt_add, Int32.toInt_sub, Int32.toInt_mul, Int32.toInt_neg, Int32.toInt_div, tdv2, tdv4, tdv10, tdv52, tdv100, nI_T, apply_ite Int32.toInt, Int.bmod, Int32.reduceToInt] at *; omega))
    · refine V_iconst (v := 1) (pc := 14) C dX3_mayOpen_14 (by decide) ?_
      refine V_goto (tgt := 19) (pc := 15) C dX3_mayOpen_15 (by decide) ?_
      refine V_zret (pc := 19) C hr hlk rfl dX3_mayOpen_19 ⟨_, rfl, ?_⟩
      first | exact ⟨(if_pos (by (simp only [i32_eq, Int32.le_iff_toInt_le, Int32.lt_iff_toInt_lt, Int32.not_le, Int32.not_lt, Int32.toInt_add, Int32.toInt_sub, Int32.toInt_mul, Int32.toInt_neg, Int32.toInt_div, tdv2, tdv4, tdv10, tdv52, tdv100, nI_T, apply_ite Int32.toInt, Int.bmod, Int32.reduceToInt] at *; omega))).symm, bI_t (by (simp only [i32_eq, Int32.le_iff_toInt_le, Int32.lt_iff_toInt_lt, Int32.not_le, Int32.not_lt, Int32.toInt_add, Int32.toInt_sub, Int32.toInt_mul, Int32.toInt_neg, Int32.toInt_div, tdv2, tdv4, tdv10, tdv52, tdv100, nI_T, apply_ite Int32.toInt, Int.bmod, Int32.reduceToInt] at *; omega))⟩ | exact ⟨(if_neg (by (simp only [i32_eq, Int32.le_iff_toInt_le, Int32.lt_iff_toInt_lt, Int32.not_le, Int32.not_lt, Int32.toInt_add, Int32.toInt_sub, Int32.toInt_mul, Int32.toInt_neg, Int32.toInt_div, tdv2, tdv4, tdv10, tdv52, tdv100, nI_T, apply_ite Int32.toInt, Int.bmod, Int32.reduceToInt] at *; omega))).symm, bI_f (by (simp only [i32_eq, Int32.le_iff_toInt_le, Int32.lt_iff_toInt_lt, Int32.not_le, Int32.not_lt, Int32.toInt_add, Int32.toInt_sub, Int32.toInt_mul, Int32.toInt_neg, Int32.toInt_div, tdv2, tdv4, tdv10, tdv52, tdv100, nI_T, apply_ite Int32.toInt, Int.bmod, Int32.reduceToInt] at *; omega))⟩ | exact absurd h_11 (by (simp only [i32_eq, Int32.le_iff_toInt_le, Int32.lt_iff_toInt_lt, Int32.not_le, Int32.not_lt, Int32.toInt_add, Int32.toInt_sub, Int32.toInt_mul, Int32.toInt_neg, Int32.toInt_div, tdv2, tdv4, tdv10, tdv52, tdv100, nI_T, apply_ite Int32.toInt, Int.bmod, Int32.reduceToInt] at *; omega))
def kEmit (M : wS) (i z : Nat) (v : Int32) : wS := if z < 160 then mset (mset M 8 i z v) 11 0 7 (nI z + 1) else M
theorem c_X3_put (hG : 30 ≤ G) (M : wS) {i z : Nat} (hi : i < 6) (hz : M.1 11 0 7 = nI z) (hz1 : z ≤ 160) (v : Int32) : Ctr l D cy ad G d yX3_put cX3_put 3 none [.ref (ad 11 0), .ref (ad 8 i), .int v] M (rV fun M' => M' = kEmit M i z v) := by
  refine Ctr.of (lv0 := [(0, _), (1, _), (2, _)]) (by decide) (Nat.le_of_ble_eq_true rfl) rfl ?_
  intro p e s m args below meth c C hr hlk _
  have C : CX p s m args c cX3_put 3 "CostsAge$Reader" D cy ad G (wA ad G) (Rm d) d 0 0 := C
  refine V_aload_n (pc := 0) C 0 dX3_put_0 rfl rfl ?_
  refine get_X3_22 (pc := 1) C (wg hG (by decide) (by decide)) dX3_put_1 ?_
  refine V_aload_n (pc := 4) C 1 dX3_put_4 rfl rfl ?_
  refine V_alen (v := 160) (pc := 5) C (wg hG (by decide) (show i < 6 from hi)) wF_8 (by decide) dX3_put_5 ?_
  refine V_icmp_ge (tgt := 26) (pc := 6) C dX3_put_6 (by decide) (fun h_6 => ?_) (fun h_6 => ?_)
  · have hlt : ¬ z < 160 := by rw [hz] at h_6; (simp only [i32_eq, Int32.le_iff_toInt_le, Int32.lt_iff_toInt_lt, Int32.not_le, Int32.not_lt, Int32.toInt_add, Int32.toInt_sub, Int32.toInt_mul, Int32.toInt_neg, Int32.toInt_div, tdv2, tdv4, tdv10, tdv52, tdv100, nI_T, apply_ite Int32.toInt, Int.bmod, Int32.reduceToInt] at *; omega)
    refine V_vret (pc := 26) C hr hlk dX3_put_26 ⟨rfl, ?_⟩
    first | (rw [kEmit, if_neg hlt]) | (rw [kEmit, if_pos hlt]; simp [mset_at, hz])
  · have hlt : z < 160 := by rw [hz] at h_6; (simp only [i32_eq, Int32.le_iff_toInt_le, Int32.lt_iff_toInt_lt, Int32.not_le, Int32.not_lt, Int32.toInt_add, Int32.toInt_sub, Int32.toInt_mul, Int32.toInt_neg, Int32.toInt_div, tdv2, tdv4, tdv10, tdv52, tdv100, nI_T, apply_ite Int32.toInt, Int.bmod, Int32.reduceToInt] at *; omega)
    refine V_aload_n (pc := 9) C 1 dX3_put_9 rfl rfl ?_
    refine V_aload_n (pc := 10) C 0 dX3_put_10 rfl rfl ?_
    refine get_X3_22 (pc := 11) C (wg hG (by decide) (by decide)) dX3_put_11 ?_
    refine V_iload_n (pc := 14) C 2 dX3_put_14 rfl rfl ?_
    refine V_iast (pc := 15) C (z) hz hlt (Nat.le_of_ble_eq_true rfl) (wg hG (by decide) (show i < 6 from hi)) (fun _ => wF_8) dX3_put_15 ?_
    refine V_aload_n (pc := 16) C 0 dX3_put_16 rfl rfl ?_
    refine V_dup (pc := 17) C dX3_put_17 rfl ?_
    refine get_X3_22 (pc := 18) C (wg hG (by decide) (by decide)) dX3_put_18 ?_
    refine V_iconst (v := 1) (pc := 21) C dX3_put_21 (by decide) ?_
    refine V_iadd (pc := 22) C dX3_put_22 ?_
    refine put_X3_22 (pc := 23) C (wg hG (by decide) (by decide)) dX3_put_23 ?_
    refine V_vret (pc := 26) C hr hlk dX3_put_26 ⟨rfl, ?_⟩
    first | (rw [kEmit, if_neg hlt]) | (rw [kEmit, if_pos hlt]; simp [mset_at, hz])
/-- the digits from a place on -/
def kNumL : Nat → Nat → wS → wS
  | 0, _, M => M
  | n + 1, a, M => if 48 ≤ M.1 12 0 a ∧ M.1 12 0 a ≤ 57 then kNumL n (a + 1) (mset (mset M 11 0 5 (10 * M.1 11 0 5 + M.1 12 0 a - 48)) 11 0 2 (nI (a + 1))) else M
def kNum1 (M : wS) : wS := mset M 11 0 4 (if M.1 11 0 2 - M.1 11 0 3 ≤ 4 then 1 else -1)
theorem lp_X3_takeNumber {p : Program} {e : Env} {s : State} {m : MethodId} {args : Array Value} {below : List Frame} {meth : Method} {c : Code} (C : CX p s m args c cX3_takeNumber 1 "CostsAge$Reader" D cy ad G (wA ad G) (Rm d) d 0 0) (hr : meth.sig.returnType = none) (hlk : meth.locks = false) (hG : 30 ≤ G) (hd : 1 ≤ d) {z : Nat} (hz1 : z ≤ 160) (Qf : wS → Prop) : ∀ (n a : Nat) (M : wS), a + n = z → M.1 11 0 1 = nI z → M.1 11 0 2 = nI a → Qf (kNum1 (kNumL n a M)) → V p l e (Rm d) s m args below meth c 1 D cy ad G (wA ad G) 0 0 (MQ below (wQ D cy ad G (rV Qf)) args s 0 0 (wA ad G)) 5 [(0, .ref (ad 11 0))] [] M := by
  intro n
  induction n with
  | zero =>
    intro a M ha hz hat hq
    refine V_aload_n (pc := 5) C 0 dX3_takeNumber_5 rfl rfl ?_
    refine get_X3_19 (pc := 6) C (wg hG (by decide) (by decide)) dX3_takeNumber_6 ?_
    refine V_aload_n (pc := 9) C 0 dX3_takeNumber_9 rfl rfl ?_
    refine get_X3_15 (pc := 10) C (wg hG (by decide) (by decide)) dX3_takeNumber_10 ?_
    refine V_icmp_ge (tgt := 68) (pc := 13) C dX3_takeNumber_13 (by decide) (fun h_13 => ?_) (fun h_13 => ?_)
    · refine V_aload_n (pc := 68) C 0 dX3_takeNumber_68 rfl rfl ?_
      refine V_aload_n (pc := 69) C 0 dX3_takeNumber_69 rfl rfl ?_
      refine get_X3_19 (pc := 70) C (wg hG (by decide) (by decide)) dX3_takeNumber_70 ?_
      refine V_aload_n (pc := 73) C 0 dX3_takeNumber_73 rfl rfl ?_
      refine get_X3_88 (pc := 74) C (wg hG (by decide) (by decide)) dX3_takeNumber_74 ?_
      refine V_isub (pc := 77) C dX3_takeNumber_77 ?_
      refine V_iconst (v := 4) (pc := 78) C dX3_takeNumber_78 (by decide) ?_
      refine V_icmp_le (tgt := 86) (pc := 79) C dX3_takeNumber_79 (by decide) (fun h_79 => ?_) (fun h_79 => ?_)
      · refine V_iconst (v := 1) (pc := 86) C dX3_takeNumber_86 (by decide) ?_
        refine put_X3_49 (pc := 87) C (wg hG (by decide) (by decide)) dX3_takeNumber_87 ?_
        refine V_vret (pc := 90) C hr hlk dX3_takeNumber_90 ⟨rfl, ?_⟩
        first | (rw [kNumL, kNum1, if_neg h_79] at hq; exact hq) | (rw [kNumL, kNum1, if_pos h_79] at hq; exact hq)
      · refine V_iconst (v := -1) (pc := 82) C dX3_takeNumber_82 (by decide) ?_
        refine V_goto (tgt := 87) (pc := 83) C dX3_takeNumber_83 (by decide) ?_
        refine put_X3_49 (pc := 87) C (wg hG (by decide) (by decide)) dX3_takeNumber_87 ?_
        refine V_vret (pc := 90) C hr hlk dX3_takeNumber_90 ⟨rfl, ?_⟩
        first | (rw [kNumL, kNum1, if_neg h_79] at hq; exact hq) | (rw [kNumL, kNum1, if_pos h_79] at hq; exact hq)
    · rw [hz, hat] at h_13
      exact absurd (nI_le (by omega) (by omega)) h_13
  | succ n ih =>
    intro a M ha hz hat hq
    refine V_aload_n (pc := 5) C 0 dX3_takeNumber_5 rfl rfl ?_
    refine get_X3_19 (pc := 6) C (wg hG (by decide) (by decide)) dX3_takeNumber_6 ?_
    refine V_aload_n (pc := 9) C 0 dX3_takeNumber_9 rfl rfl ?_
    refine get_X3_15 (pc := 10) C (wg hG (by decide) (by decide)) dX3_takeNumber_10 ?_
    refine V_icmp_ge (tgt := 68) (pc := 13) C dX3_takeNumber_13 (by decide) (fun h_13 => ?_) (fun h_13 => ?_)
    · rw [hz, hat] at h_13
      exact absurd h_13 (nI_ge (by omega) (by omega))
    · refine V_aload_n (pc := 16) C 0 dX3_takeNumber_16 rfl rfl ?_
      refine get_X3_9 (pc := 17) C (wg hG (by decide) (by decide)) dX3_takeNumber_17 ?_
      refine V_aload_n (pc := 20) C 0 dX3_takeNumber_20 rfl rfl ?_
      refine get_X3_19 (pc := 21) C (wg hG (by decide) (by decide)) dX3_takeNumber_21 ?_
      refine V_iald (pc := 24) C (a) hat (by omega) (Nat.le_of_ble_eq_true rfl) (wg hG (by decide) (by decide)) wF_12 dX3_takeNumber_24 ?_
      refine call_X3_97 (pc := 25) C (c_X3_isDigit (d := d - 1) M _) (by omega) (Nat.le_of_ble_eq_true rfl) dX3_takeNumber_25 (fun x_25 M_25 h_25 => ?_)
      obtain ⟨e_25, rfl⟩ := h_25
      have e_25 := e_25.symm
      subst e_25
      refine V_if_eq (tgt := 68) (pc := 28) C dX3_takeNumber_28 (by decide) (fun h_28 => ?_) (fun h_28 => ?_)
      · have h_28 := bJ_0.mp h_28
        rw [kNumL, if_neg h_28] at hq
        refine V_aload_n (pc := 68) C 0 dX3_takeNumber_68 rfl rfl ?_
        refine V_aload_n (pc := 69) C 0 dX3_takeNumber_69 rfl rfl ?_
        refine get_X3_19 (pc := 70) C (wg hG (by decide) (by decide)) dX3_takeNumber_70 ?_
        refine V_aload_n (pc := 73) C 0 dX3_takeNumber_73 rfl rfl ?_
        refine get_X3_88 (pc := 74) C (wg hG (by decide) (by decide)) dX3_takeNumber_74 ?_
        refine V_isub (pc := 77) C dX3_takeNumber_77 ?_
        refine V_iconst (v := 4) (pc := 78) C dX3_takeNumber_78 (by decide) ?_
        refine V_icmp_le (tgt := 86) (pc := 79) C dX3_takeNumber_79 (by decide) (fun h_79 => ?_) (fun h_79 => ?_)
        · refine V_iconst (v := 1) (pc := 86) C dX3_takeNumber_86 (by decide) ?_
          refine put_X3_49 (pc := 87) C (wg hG (by decide) (by decide)) dX3_takeNumber_87 ?_
          refine V_vret (pc := 90) C hr hlk dX3_takeNumber_90 ⟨rfl, ?_⟩
          first | (rw [kNum1, if_neg h_79] at hq; exact hq) | (rw [kNum1, if_pos h_79] at hq; exact hq)
        · refine V_iconst (v := -1) (pc := 82) C dX3_takeNumber_82 (by decide) ?_
          refine V_goto (tgt := 87) (pc := 83) C dX3_takeNumber_83 (by decide) ?_
          refine put_X3_49 (pc := 87) C (wg hG (by decide) (by decide)) dX3_takeNumber_87 ?_
          refine V_vret (pc := 90) C hr hlk dX3_takeNumber_90 ⟨rfl, ?_⟩
          first | (rw [kNum1, if_neg h_79] at hq; exact hq) | (rw [kNum1, if_pos h_79] at hq; exact hq)
      · have h_28 := bJ_1.mp h_28
        rw [kNumL, if_pos h_28] at hq
        refine V_aload_n (pc := 31) C 0 dX3_takeNumber_31 rfl rfl ?_
        refine V_bipush (v := 10) (pc := 32) C dX3_takeNumber_32 (by decide) ?_
        refine V_aload_n (pc := 34) C 0 dX3_takeNumber_34 rfl rfl ?_
        refine get_X3_85 (pc := 35) C (wg hG (by decide) (by decide)) dX3_takeNumber_35 ?_
        refine V_imul (pc := 38) C dX3_takeNumber_38 ?_
        refine V_aload_n (pc := 39) C 0 dX3_takeNumber_39 rfl rfl ?_
        refine get_X3_9 (pc := 40) C (wg hG (by decide) (by decide)) dX3_takeNumber_40 ?_
        refine V_aload_n (pc := 43) C 0 dX3_takeNumber_43 rfl rfl ?_
        refine get_X3_19 (pc := 44) C (wg hG (by decide) (by decide)) dX3_takeNumber_44 ?_
        refine V_iald (pc := 47) C (a) hat (by omega) (Nat.le_of_ble_eq_true rfl) (wg hG (by decide) (by decide)) wF_12 dX3_takeNumber_47 ?_
        refine V_iadd (pc := 48) C dX3_takeNumber_48 ?_
        refine V_bipush (v := 48) (pc := 49) C dX3_takeNumber_49 (by decide) ?_
        refine V_isub (pc := 51) C dX3_takeNumber_51 ?_
        refine put_X3_85 (pc := 52) C (wg hG (by decide) (by decide)) dX3_takeNumber_52 ?_
        refine V_aload_n (pc := 55) C 0 dX3_takeNumber_55 rfl rfl ?_
        refine V_dup (pc := 56) C dX3_takeNumber_56 rfl ?_
        refine get_X3_19 (pc := 57) C (wg hG (by decide) (by decide)) dX3_takeNumber_57 ?_
        refine V_iconst (v := 1) (pc := 60) C dX3_takeNumber_60 (by decide) ?_
        refine V_iadd (pc := 61) C dX3_takeNumber_61 ?_
        refine put_X3_19 (pc := 62) C (wg hG (by decide) (by decide)) dX3_takeNumber_62 ?_
        refine V_goto (tgt := 5) (pc := 65) C dX3_takeNumber_65 (by decide) ?_
        refine ih (a + 1) _ (by omega) ?_ ?_ ?_
        · simp [mset_at, hz]
        · rw [mset_at, if_pos ⟨rfl, rfl, rfl⟩, mset_at, if_neg (by omega), hat]
          exact nI_i1 a
        · rw [mset_at, if_neg (by omega), hat, show nI a + 1 = nI (a + 1) from nI_i1 a]
          exact hq
def kNum (M : wS) (a z : Nat) : wS := kNum1 (kNumL (z - a) a (mset M 11 0 5 0))
theorem c_X3_takeNumber (hG : 30 ≤ G) (hd : 1 ≤ d) (M : wS) {a z : Nat} (hz : M.1 11 0 1 = nI z) (hz1 : z ≤ 160) (ha : M.1 11 0 2 = nI a) (haz : a ≤ z) : Ctr l D cy ad G d yX3_takeNumber cX3_takeNumber 1 none [.ref (ad 11 0)] M (rV fun M' => M' = kNum M a z) := by
  refine Ctr.of (lv0 := [(0, _)]) (by decide) (Nat.le_of_ble_eq_true rfl) rfl ?_
  intro p e s m args below meth c C hr hlk _
  have C : CX p s m args c cX3_takeNumber 1 "CostsAge$Reader" D cy ad G (wA ad G) (Rm d) d 0 0 := C
  refine V_aload_n (pc := 0) C 0 dX3_takeNumber_0 rfl rfl ?_
  refine V_iconst (v := 0) (pc := 1) C dX3_takeNumber_1 (by decide) ?_
  refine put_X3_85 (pc := 2) C (wg hG (by decide) (by decide)) dX3_takeNumber_2 ?_
  exact lp_X3_takeNumber C hr hlk hG hd hz1 _ (z - a) a _ (by omega) (by rw [mset_at, if_neg (by omega)]; exact hz) (by rw [mset_at, if_neg (by omega)]; exact ha) rfl
end S40
