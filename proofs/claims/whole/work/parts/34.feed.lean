section S34
variable {l : Launch} {D : va_G} {cy : Nat → ClassId} {ad : Nat → Nat → Nat} {G d : Nat}
def kApp (M : wS) (z : Nat) (v : Int32) : wS := mset (mset M 12 0 z v) 11 0 1 (nI z + 1)
theorem c_X3_append (hG : 30 ≤ G) (M : wS) {z : Nat} (hz : M.1 11 0 1 = nI z) (hz1 : z ≤ 160) (v : Int32) : Ctr l D cy ad G d yX3_append cX3_append 2 (some .boolean) [.ref (ad 11 0), .int v] M (rI fun x M' => M' = (if z < 160 then kApp M z v else M) ∧ x = bI (z < 160)) := by
  refine Ctr.of (lv0 := [(0, _), (1, _)]) (by decide) (Nat.le_of_ble_eq_true rfl) rfl ?_
  intro p e s m args below meth c C hr hlk _
  have C : CX p s m args c cX3_append 2 "CostsAge$Reader" D cy ad G (wA ad G) (Rm d) d 0 0 := C
  refine V_aload_n (pc := 0) C 0 dX3_append_0 rfl rfl ?_
  refine get_X3_15 (pc := 1) C (wg hG (by decide) (by decide)) dX3_append_1 ?_
  refine V_sipush (v := 160) (pc := 4) C dX3_append_4 (by decide) ?_
  refine V_icmp_lt (tgt := 12) (pc := 7) C dX3_append_7 (by decide) (fun h_7 => ?_) (fun h_7 => ?_)
  · have hlt : z < 160 := by rw [hz] at h_7; (simp only [i32_eq, Int32.le_iff_toInt_le, Int32.lt_iff_toInt_lt, Int32.not_le, Int32.not_lt, Int32.toInt_add, Int32.toInt_sub, Int32.toInt_mul, Int32.toInt_neg, Int32.toInt_div, tdv2, tdv4, tdv10, tdv52, tdv100, nI_T, apply_ite Int32.toInt, Int.bmod, Int32.reduceToInt] at *; omega)
    refine V_aload_n (pc := 12) C 0 dX3_append_12 rfl rfl ?_
    refine get_X3_9 (pc := 13) C (wg hG (by decide) (by decide)) dX3_append_13 ?_
    refine V_aload_n (pc := 16) C 0 dX3_append_16 rfl rfl ?_
    refine get_X3_15 (pc := 17) C (wg hG (by decide) (by decide)) dX3_append_17 ?_
    refine V_iload_n (pc := 20) C 1 dX3_append_20 rfl rfl ?_
    refine V_iast (pc := 21) C (z) hz hlt (Nat.le_of_ble_eq_true rfl) (wg hG (by decide) (by decide)) (fun _ => wF_12) dX3_append_21 ?_
    refine V_aload_n (pc := 22) C 0 dX3_append_22 rfl rfl ?_
    refine V_dup (pc := 23) C dX3_append_23 rfl ?_
    refine get_X3_15 (pc := 24) C (wg hG (by decide) (by decide)) dX3_append_24 ?_
    refine V_iconst (v := 1) (pc := 27) C dX3_append_27 (by decide) ?_
    refine V_iadd (pc := 28) C dX3_append_28 ?_
    refine put_X3_15 (pc := 29) C (wg hG (by decide) (by decide)) dX3_append_29 ?_
    refine V_iconst (v := 1) (pc := 32) C dX3_append_32 (by decide) ?_
    refine V_zret (pc := 33) C hr hlk rfl dX3_append_33 ⟨_, rfl, ?_⟩
    refine ⟨?_, bI_t hlt⟩
    rw [if_pos hlt]
    simp [kApp, mset_at, hz]
  · refine V_iconst (v := 0) (pc := 10) C dX3_append_10 (by decide) ?_
    refine V_zret (pc := 11) C hr hlk rfl dX3_append_11 ⟨_, rfl, ?_⟩
    have hlt : ¬ z < 160 := by rw [hz] at h_7; (simp only [i32_eq, Int32.le_iff_toInt_le, Int32.lt_iff_toInt_lt, Int32.not_le, Int32.not_lt, Int32.toInt_add, Int32.toInt_sub, Int32.toInt_mul, Int32.toInt_neg, Int32.toInt_div, tdv2, tdv4, tdv10, tdv52, tdv100, nI_T, apply_ite Int32.toInt, Int.bmod, Int32.reduceToInt] at *; omega)
    exact ⟨(if_neg hlt).symm, bI_f hlt⟩
def kFeed (M : wS) (z : Nat) (v : Int32) : Int32 × wS := if 0 ≤ v ∧ v ≤ 255 then (if z < 160 then (nI z + 1, kApp M z v) else (-4, M)) else (-2, M)
theorem c_X9_feed (hG : 30 ≤ G) (hd : 1 ≤ d) (M : wS) {z : Nat} (hz : M.1 11 0 1 = nI z) (hz1 : z ≤ 160) (v : Int32) : Ctr l D cy ad G d yX9_feed cX9_feed 2 (some .int) [.ref (ad 0 0), .int v] M (rI fun x M' => (x, M') = kFeed M z v) := by
  refine Ctr.of (lv0 := [(0, _), (1, _)]) (by decide) (Nat.le_of_ble_eq_true rfl) rfl ?_
  intro p e s m args below meth c C hr hlk _
  have C : CX p s m args c cX9_feed 2 "CostsAge" D cy ad G (wA ad G) (Rm d) d 0 0 := C
  refine V_iload_n (pc := 0) C 1 dX9_feed_0 rfl rfl ?_
  refine V_sipush (v := 255) (pc := 1) C dX9_feed_1 (by decide) ?_
  refine call_X9_102 (pc := 4) C (c_X9_isWithin (d := d - 1) M _ _) (by omega) (Nat.le_of_ble_eq_true rfl) dX9_feed_4 (fun x_4 M_4 h_4 => ?_)
  obtain ⟨e_4, rfl⟩ := h_4
  have e_4 := e_4.symm
  subst e_4
  refine V_if_ne (tgt := 13) (pc := 7) C dX9_feed_7 (by decide) (fun h_7 => ?_) (fun h_7 => ?_)
  · have h_7 := bJ_1.mp h_7
    refine V_aload_n (pc := 13) C 0 dX9_feed_13 rfl rfl ?_
    refine get_X9_36 (pc := 14) C (wg hG (by decide) (by decide)) dX9_feed_14 ?_
    refine V_iload_n (pc := 17) C 1 dX9_feed_17 rfl rfl ?_
    refine call_X9_91 (pc := 18) C (c_X3_append (d := d - 1) hG M hz hz1 _) (by omega) (wg hG (by decide) (by decide)) (Nat.le_of_ble_eq_true rfl) dX9_feed_18 (fun x_18 M_18 h_18 => ?_)
    obtain ⟨e_18, x_18⟩ := h_18
    rw [x_18]
    refine V_if_eq (tgt := 34) (pc := 21) C dX9_feed_21 (by decide) (fun h_21 => ?_) (fun h_21 => ?_)
    · have h_21 := bJ_0.mp h_21
      refine V_bipush (v := -4) (pc := 34) C dX9_feed_34 (by decide) ?_
      refine V_iret (pc := 36) C hr hlk dX9_feed_36 ⟨_, rfl, ?_⟩
      rw [if_neg h_21] at e_18
      rw [kFeed, if_pos h_7, if_neg h_21, e_18]
    · have h_21 := bJ_1.mp h_21
      refine V_aload_n (pc := 24) C 0 dX9_feed_24 rfl rfl ?_
      refine get_X9_36 (pc := 25) C (wg hG (by decide) (by decide)) dX9_feed_25 ?_
      refine get_X9_172 (pc := 28) C (wg hG (by decide) (by decide)) dX9_feed_28 ?_
      refine V_goto (tgt := 36) (pc := 31) C dX9_feed_31 (by decide) ?_
      refine V_iret (pc := 36) C hr hlk dX9_feed_36 ⟨_, rfl, ?_⟩
      rw [if_pos h_21] at e_18
      rw [kFeed, if_pos h_7, if_pos h_21, e_18]
      simp [kApp, mset_at]
  · have h_7 := bJ_0.mp h_7
    refine V_bipush (v := -2) (pc := 10) C dX9_feed_10 (by decide) ?_
    refine V_iret (pc := 12) C hr hlk dX9_feed_12 ⟨_, rfl, ?_⟩
    rw [kFeed, if_neg h_7]
def kCount (M : wS) (w : Int32) (un : Int32) : Int32 := if w = 0 then M.1 0 0 11 else if w = 1 then M.1 0 0 12 else if w = 2 then un else if w = 3 then M.1 26 0 4 else if w = 4 then M.1 26 0 5 else if w = 5 then M.1 26 0 6 else if w = 6 then M.1 26 0 7 else if w = 7 then M.1 0 0 13 else if w = 8 then M.1 11 0 1 else if w = 9 then M.1 26 0 8 else -2
theorem c_X9_count (hG : 30 ≤ G) (hd : 1 ≤ d) (M : wS) {u : Nat} (hu : u < 128) (hun : (1 <<< (M.1 0 0 12 &&& 31) - 1) &&& (M.1 26 0 3 ^^^ -1) = nI u) (w : Int32) : Ctr l D cy ad G d yX9_count cX9_count 2 (some .int) [.ref (ad 0 0), .int w] M (rI fun x M' => M' = M ∧ x = kCount M w (nI (pc7 u))) := by
  refine Ctr.of (lv0 := [(0, _), (1, _)]) (by decide) (Nat.le_of_ble_eq_true rfl) rfl ?_
  intro p e s m args below meth c C hr hlk _
  have C : CX p s m args c cX9_count 2 "CostsAge" D cy ad G (wA ad G) (Rm d) d 0 0 := C
  refine V_iload_n (pc := 0) C 1 dX9_count_0 rfl rfl ?_
  refine V_tbl (pc := 1) C dX9_count_1 rfl (fun j_1 o_1 t_1 ho_1 ht_1 h_1 _ => ?_) (fun t_1 ht_1 h_1 => ?_) (by decide +kernel) (by decide)
  · match j_1, ho_1, h_1 with
    | 0, ho_1, h_1 =>
      obtain rfl : ((55 : Int)) = o_1 := Option.some.inj ho_1
      obtain rfl : t_1 = 56 := by omega
      have hw : w = 0 := by (simp only [i32_eq, Int32.le_iff_toInt_le, Int32.lt_iff_toInt_lt, Int32.not_le, Int32.not_lt, Int32.toInt_add, Int32.toInt_sub, Int32.toInt_mul, Int32.toInt_neg, Int32.toInt_div, tdv2, tdv4, tdv10, tdv52, tdv100, nI_T, apply_ite Int32.toInt, Int.bmod, Int32.reduceToInt] at *; omega)
      refine V_aload_n (pc := 56) C 0 dX9_count_56 rfl rfl ?_
      refine get_X9_106 (pc := 57) C (wg hG (by decide) (by decide)) dX9_count_57 ?_
      refine V_iret (pc := 60) C hr hlk dX9_count_60 ⟨_, rfl, ?_⟩
      exact ⟨rfl, by rw [hw]; rfl⟩
    | 1, ho_1, h_1 =>
      obtain rfl : ((60 : Int)) = o_1 := Option.some.inj ho_1
      obtain rfl : t_1 = 61 := by omega
      have hw : w = 1 := by (simp only [i32_eq, Int32.le_iff_toInt_le, Int32.lt_iff_toInt_lt, Int32.not_le, Int32.not_lt, Int32.toInt_add, Int32.toInt_sub, Int32.toInt_mul, Int32.toInt_neg, Int32.toInt_div, tdv2, tdv4, tdv10, tdv52, tdv100, nI_T, apply_ite Int32.toInt, Int.bmod, Int32.reduceToInt] at *; omega)
      refine V_aload_n (pc := 61) C 0 dX9_count_61 rfl rfl ?_
      refine get_X9_124 (pc := 62) C (wg hG (by decide) (by decide)) dX9_count_62 ?_
      refine V_iret (pc := 65) C hr hlk dX9_count_65 ⟨_, rfl, ?_⟩
      exact ⟨rfl, by rw [hw]; rfl⟩
    | 2, ho_1, h_1 =>
      obtain rfl : ((65 : Int)) = o_1 := Option.some.inj ho_1
      obtain rfl : t_1 = 66 := by omega
      have hw : w = 2 := by (simp only [i32_eq, Int32.le_iff_toInt_le, Int32.lt_iff_toInt_lt, Int32.not_le, Int32.not_lt, Int32.toInt_add, Int32.toInt_sub, Int32.toInt_mul, Int32.toInt_neg, Int32.toInt_div, tdv2, tdv4, tdv10, tdv52, tdv100, nI_T, apply_ite Int32.toInt, Int.bmod, Int32.reduceToInt] at *; omega)
      refine V_aload_n (pc := 66) C 0 dX9_count_66 rfl rfl ?_
      refine call_X9_216 (pc := 67) C (c_X9_unbought (d := d - 1) hG M) (by omega) (wg hG (by decide) (by decide)) (Nat.le_of_ble_eq_true rfl) dX9_count_67 (fun x_67 M_67 h_67 => ?_)
      obtain ⟨e_67, rfl⟩ := h_67
      have e_67 := e_67.symm
      subst e_67
      rw [hun]
      refine call_X9_265 (pc := 70) C (c_J6_bitCount (d := d - 1) M hu) (by omega) (Nat.le_of_ble_eq_true rfl) dX9_count_70 (fun x_70 M_70 h_70 => ?_)
      obtain ⟨e_70, rfl⟩ := h_70
      have e_70 := e_70.symm
      subst e_70
      refine V_iret (pc := 73) C hr hlk dX9_count_73 ⟨_, rfl, ?_⟩
      exact ⟨rfl, by rw [hw]; rfl⟩
    | 3, ho_1, h_1 =>
      obtain rfl : ((73 : Int)) = o_1 := Option.some.inj ho_1
      obtain rfl : t_1 = 74 := by omega
      have hw : w = 3 := by (simp only [i32_eq, Int32.le_iff_toInt_le, Int32.lt_iff_toInt_lt, Int32.not_le, Int32.not_lt, Int32.toInt_add, Int32.toInt_sub, Int32.toInt_mul, Int32.toInt_neg, Int32.toInt_div, tdv2, tdv4, tdv10, tdv52, tdv100, nI_T, apply_ite Int32.toInt, Int.bmod, Int32.reduceToInt] at *; omega)
      refine V_aload_n (pc := 74) C 0 dX9_count_74 rfl rfl ?_
      refine get_X9_64 (pc := 75) C (wg hG (by decide) (by decide)) dX9_count_75 ?_
      refine get_X9_160 (pc := 78) C (wg hG (by decide) (by decide)) dX9_count_78 ?_
      refine V_iret (pc := 81) C hr hlk dX9_count_81 ⟨_, rfl, ?_⟩
      exact ⟨rfl, by rw [hw]; rfl⟩
    | 4, ho_1, h_1 =>
      obtain rfl : ((81 : Int)) = o_1 := Option.some.inj ho_1
      obtain rfl : t_1 = 82 := by omega
      have hw : w = 4 := by (simp only [i32_eq, Int32.le_iff_toInt_le, Int32.lt_iff_toInt_lt, Int32.not_le, Int32.not_lt, Int32.toInt_add, Int32.toInt_sub, Int32.toInt_mul, Int32.toInt_neg, Int32.toInt_div, tdv2, tdv4, tdv10, tdv52, tdv100, nI_T, apply_ite Int32.toInt, Int.bmod, Int32.reduceToInt] at *; omega)
      refine V_aload_n (pc := 82) C 0 dX9_count_82 rfl rfl ?_
      refine get_X9_64 (pc := 83) C (wg hG (by decide) (by decide)) dX9_count_83 ?_
      refine get_X9_201 (pc := 86) C (wg hG (by decide) (by decide)) dX9_count_86 ?_
      refine V_iret (pc := 89) C hr hlk dX9_count_89 ⟨_, rfl, ?_⟩
      exact ⟨rfl, by rw [hw]; rfl⟩
    | 5, ho_1, h_1 =>
      obtain rfl : ((89 : Int)) = o_1 := Option.some.inj ho_1
      obtain rfl : t_1 = 90 := by omega
      have hw : w = 5 := by (simp only [i32_eq, Int32.le_iff_toInt_le, Int32.lt_iff_toInt_lt, Int32.not_le, Int32.not_lt, Int32.toInt_add, Int32.toInt_sub, Int32.toInt_mul, Int32.toInt_neg, Int32.toInt_div, tdv2, tdv4, tdv10, tdv52, tdv100, nI_T, apply_ite Int32.toInt, Int.bmod, Int32.reduceToInt] at *; omega)
      refine V_aload_n (pc := 90) C 0 dX9_count_90 rfl rfl ?_
      refine get_X9_64 (pc := 91) C (wg hG (by decide) (by decide)) dX9_count_91 ?_
      refine get_X9_198 (pc := 94) C (wg hG (by decide) (by decide)) dX9_count_94 ?_
      refine V_iret (pc := 97) C hr hlk dX9_count_97 ⟨_, rfl, ?_⟩
      exact ⟨rfl, by rw [hw]; rfl⟩
    | 6, ho_1, h_1 =>
      obtain rfl : ((97 : Int)) = o_1 := Option.some.inj ho_1
      obtain rfl : t_1 = 98 := by omega
      have hw : w = 6 := by (simp only [i32_eq, Int32.le_iff_toInt_le, Int32.lt_iff_toInt_lt, Int32.not_le, Int32.not_lt, Int32.toInt_add, Int32.toInt_sub, Int32.toInt_mul, Int32.toInt_neg, Int32.toInt_div, tdv2, tdv4, tdv10, tdv52, tdv100, nI_T, apply_ite Int32.toInt, Int.bmod, Int32.reduceToInt] at *; omega)
      refine V_aload_n (pc := 98) C 0 dX9_count_98 rfl rfl ?_
      refine get_X9_64 (pc := 99) C (wg hG (by decide) (by decide)) dX9_count_99 ?_
      refine get_X9_75 (pc := 102) C (wg hG (by decide) (by decide)) dX9_count_102 ?_
      refine V_iret (pc := 105) C hr hlk dX9_count_105 ⟨_, rfl, ?_⟩
      exact ⟨rfl, by rw [hw]; rfl⟩
    | 7, ho_1, h_1 =>
      obtain rfl : ((105 : Int)) = o_1 := Option.some.inj ho_1
      obtain rfl : t_1 = 106 := by omega
      have hw : w = 7 := by (simp only [i32_eq, Int32.le_iff_toInt_le, Int32.lt_iff_toInt_lt, Int32.not_le, Int32.not_lt, Int32.toInt_add, Int32.toInt_sub, Int32.toInt_mul, Int32.toInt_neg, Int32.toInt_div, tdv2, tdv4, tdv10, tdv52, tdv100, nI_T, apply_ite Int32.toInt, Int.bmod, Int32.reduceToInt] at *; omega)
      refine V_aload_n (pc := 106) C 0 dX9_count_106 rfl rfl ?_
      refine get_X9_99 (pc := 107) C (wg hG (by decide) (by decide)) dX9_count_107 ?_
      refine V_iret (pc := 110) C hr hlk dX9_count_110 ⟨_, rfl, ?_⟩
      exact ⟨rfl, by rw [hw]; rfl⟩
    | 8, ho_1, h_1 =>
      obtain rfl : ((110 : Int)) = o_1 := Option.some.inj ho_1
      obtain rfl : t_1 = 111 := by omega
      have hw : w = 8 := by (simp only [i32_eq, Int32.le_iff_toInt_le, Int32.lt_iff_toInt_lt, Int32.not_le, Int32.not_lt, Int32.toInt_add, Int32.toInt_sub, Int32.toInt_mul, Int32.toInt_neg, Int32.toInt_div, tdv2, tdv4, tdv10, tdv52, tdv100, nI_T, apply_ite Int32.toInt, Int.bmod, Int32.reduceToInt] at *; omega)
      refine V_aload_n (pc := 111) C 0 dX9_count_111 rfl rfl ?_
      refine get_X9_36 (pc := 112) C (wg hG (by decide) (by decide)) dX9_count_112 ?_
      refine get_X9_172 (pc := 115) C (wg hG (by decide) (by decide)) dX9_count_115 ?_
      refine V_iret (pc := 118) C hr hlk dX9_count_118 ⟨_, rfl, ?_⟩
      exact ⟨rfl, by rw [hw]; rfl⟩
    | 9, ho_1, h_1 =>
      obtain rfl : ((118 : Int)) = o_1 := Option.some.inj ho_1
      obtain rfl : t_1 = 119 := by omega
      have hw : w = 9 := by (simp only [i32_eq, Int32.le_iff_toInt_le, Int32.lt_iff_toInt_lt, Int32.not_le, Int32.not_lt, Int32.toInt_add, Int32.toInt_sub, Int32.toInt_mul, Int32.toInt_neg, Int32.toInt_div, tdv2, tdv4, tdv10, tdv52, tdv100, nI_T, apply_ite Int32.toInt, Int.bmod, Int32.reduceToInt] at *; omega)
      refine V_aload_n (pc := 119) C 0 dX9_count_119 rfl rfl ?_
      refine get_X9_64 (pc := 120) C (wg hG (by decide) (by decide)) dX9_count_120 ?_
      refine get_X9_173 (pc := 123) C (wg hG (by decide) (by decide)) dX9_count_123 ?_
      refine V_iret (pc := 126) C hr hlk dX9_count_126 ⟨_, rfl, ?_⟩
      exact ⟨rfl, by rw [hw]; rfl⟩
    | _ + 10, ho_1, h_1 => exact absurd ho_1 (by simp)
  · obtain rfl : t_1 = 127 := by omega
    have z : ∀ q : Int32, 0 ≤ q.toInt ∧ q.toInt ≤ 9 → ¬ w = q := fun q hq e => by
      rw [e] at h_1
      omega
    refine V_bipush (v := -2) (pc := 127) C dX9_count_127 (by decide) ?_
    refine V_iret (pc := 129) C hr hlk dX9_count_129 ⟨_, rfl, ?_⟩
    exact ⟨rfl, by rw [kCount, if_neg (z 0 (by decide)), if_neg (z 1 (by decide)), if_neg (z 2 (by decide)), if_neg (z 3 (by decide)), if_neg (z 4 (by decide)), if_neg (z 5 (by decide)), if_neg (z 6 (by decide)), if_neg (z 7 (by decide)), if_neg (z 8 (by decide)), if_neg (z 9 (by decide))]⟩
end S34
