theorem i32_eq {x y : Int32} : x = y ↔ x.toInt = y.toInt := Int32.toInt_inj.symm
section S10
variable {l : Launch} {D : va_G} {cy : Nat → ClassId} {ad : Nat → Nat → Nat} {G d : Nat}
theorem c_X9_isWithin (M : wS) (v last : Int32) : Ctr l D cy ad G d yX9_isWithin cX9_isWithin 2 (some .boolean) [.int v, .int last] M (rI fun x M' => M' = M ∧ x = bI (0 ≤ v ∧ v ≤ last)) := by
  refine Ctr.of (lv0 := [(0, _), (1, _)]) (by decide) (Nat.le_of_ble_eq_true rfl) rfl ?_
  intro p e s m args below meth c C hr hk _
  have C : CX p s m args c cX9_isWithin 2 "CostsAge" D cy ad G (wA ad G) (Rm d) d 0 0 := C
  refine V_iload_n (pc := 0) C 0 dX9_isWithin_0 rfl rfl ?_
  refine V_if_lt (tgt := 13) (pc := 1) C dX9_isWithin_1 (by decide) (fun h_1 => ?_) (fun h_1 => ?_)
  · refine V_iconst (v := 0) (pc := 13) C dX9_isWithin_13 (by decide) ?_
    refine V_zret (pc := 14) C hr hk rfl dX9_isWithin_14 ⟨_, rfl, ?_⟩
    refine ⟨rfl, ?_⟩
    first | exact bI_t (by (simp only [i32_eq, Int32.le_iff_toInt_le, Int32.lt_iff_toInt_lt, Int32.not_le, Int32.not_lt] at *; omega)) | exact bI_f (by (simp only [i32_eq, Int32.le_iff_toInt_le, Int32.lt_iff_toInt_lt, Int32.not_le, Int32.not_lt] at *; omega))
  · refine V_iload_n (pc := 4) C 0 dX9_isWithin_4 rfl rfl ?_
    refine V_iload_n (pc := 5) C 1 dX9_isWithin_5 rfl rfl ?_
    refine V_icmp_gt (tgt := 13) (pc := 6) C dX9_isWithin_6 (by decide) (fun h_6 => ?_) (fun h_6 => ?_)
    · refine V_iconst (v := 0) (pc := 13) C dX9_isWithin_13 (by decide) ?_
      refine V_zret (pc := 14) C hr hk rfl dX9_isWithin_14 ⟨_, rfl, ?_⟩
      refine ⟨rfl, ?_⟩
      first | exact bI_t (by (simp only [i32_eq, Int32.le_iff_toInt_le, Int32.lt_iff_toInt_lt, Int32.not_le, Int32.not_lt] at *; omega)) | exact bI_f (by (simp only [i32_eq, Int32.le_iff_toInt_le, Int32.lt_iff_toInt_lt, Int32.not_le, Int32.not_lt] at *; omega))
    · refine V_iconst (v := 1) (pc := 9) C dX9_isWithin_9 (by decide) ?_
      refine V_goto (tgt := 14) (pc := 10) C dX9_isWithin_10 (by decide) ?_
      refine V_zret (pc := 14) C hr hk rfl dX9_isWithin_14 ⟨_, rfl, ?_⟩
      refine ⟨rfl, ?_⟩
      first | exact bI_t (by (simp only [i32_eq, Int32.le_iff_toInt_le, Int32.lt_iff_toInt_lt, Int32.not_le, Int32.not_lt] at *; omega)) | exact bI_f (by (simp only [i32_eq, Int32.le_iff_toInt_le, Int32.lt_iff_toInt_lt, Int32.not_le, Int32.not_lt] at *; omega))
theorem c_X9_isBuyer (hG : 30 ≤ G) (M : wS) (b : Int32) : Ctr l D cy ad G d yX9_isBuyer cX9_isBuyer 2 (some .boolean) [.ref (ad 0 0), .int b] M (rI fun x M' => M' = M ∧ x = bI (0 ≤ b ∧ b < M.1 0 0 11)) := by
  refine Ctr.of (lv0 := [(0, _), (1, _)]) (by decide) (Nat.le_of_ble_eq_true rfl) rfl ?_
  intro p e s m args below meth c C hr hk _
  have C : CX p s m args c cX9_isBuyer 2 "CostsAge" D cy ad G (wA ad G) (Rm d) d 0 0 := C
  refine V_iload_n (pc := 0) C 1 dX9_isBuyer_0 rfl rfl ?_
  refine V_if_lt (tgt := 16) (pc := 1) C dX9_isBuyer_1 (by decide) (fun h_1 => ?_) (fun h_1 => ?_)
  · refine V_iconst (v := 0) (pc := 16) C dX9_isBuyer_16 (by decide) ?_
    refine V_zret (pc := 17) C hr hk rfl dX9_isBuyer_17 ⟨_, rfl, ?_⟩
    refine ⟨rfl, ?_⟩
    first | exact bI_t (by (simp only [i32_eq, Int32.le_iff_toInt_le, Int32.lt_iff_toInt_lt, Int32.not_le, Int32.not_lt] at *; omega)) | exact bI_f (by (simp only [i32_eq, Int32.le_iff_toInt_le, Int32.lt_iff_toInt_lt, Int32.not_le, Int32.not_lt] at *; omega))
  · refine V_iload_n (pc := 4) C 1 dX9_isBuyer_4 rfl rfl ?_
    refine V_aload_n (pc := 5) C 0 dX9_isBuyer_5 rfl rfl ?_
    refine get_X9_106 (pc := 6) C (wg hG (by decide) (by decide)) dX9_isBuyer_6 ?_
    refine V_icmp_ge (tgt := 16) (pc := 9) C dX9_isBuyer_9 (by decide) (fun h_9 => ?_) (fun h_9 => ?_)
    · refine V_iconst (v := 0) (pc := 16) C dX9_isBuyer_16 (by decide) ?_
      refine V_zret (pc := 17) C hr hk rfl dX9_isBuyer_17 ⟨_, rfl, ?_⟩
      refine ⟨rfl, ?_⟩
      first | exact bI_t (by (simp only [i32_eq, Int32.le_iff_toInt_le, Int32.lt_iff_toInt_lt, Int32.not_le, Int32.not_lt] at *; omega)) | exact bI_f (by (simp only [i32_eq, Int32.le_iff_toInt_le, Int32.lt_iff_toInt_lt, Int32.not_le, Int32.not_lt] at *; omega))
    · refine V_iconst (v := 1) (pc := 12) C dX9_isBuyer_12 (by decide) ?_
      refine V_goto (tgt := 17) (pc := 13) C dX9_isBuyer_13 (by decide) ?_
      refine V_zret (pc := 17) C hr hk rfl dX9_isBuyer_17 ⟨_, rfl, ?_⟩
      refine ⟨rfl, ?_⟩
      first | exact bI_t (by (simp only [i32_eq, Int32.le_iff_toInt_le, Int32.lt_iff_toInt_lt, Int32.not_le, Int32.not_lt] at *; omega)) | exact bI_f (by (simp only [i32_eq, Int32.le_iff_toInt_le, Int32.lt_iff_toInt_lt, Int32.not_le, Int32.not_lt] at *; omega))
theorem c_X9_changeCarry (hG : 30 ≤ G) (M : wS) (v : Int32) : Ctr l D cy ad G d yX9_changeCarry cX9_changeCarry 3 (some .int) [.ref (ad 0 0), .int v] M (rI fun x M' => M' = mset M 26 0 7 v ∧ x = M.1 26 0 7) := by
  refine Ctr.of (lv0 := [(0, _), (1, _)]) (by decide) (Nat.le_of_ble_eq_true rfl) rfl ?_
  intro p e s m args below meth c C hr hk _
  have C : CX p s m args c cX9_changeCarry 3 "CostsAge" D cy ad G (wA ad G) (Rm d) d 0 0 := C
  refine V_aload_n (pc := 0) C 0 dX9_changeCarry_0 rfl rfl ?_
  refine get_X9_64 (pc := 1) C (wg hG (by decide) (by decide)) dX9_changeCarry_1 ?_
  refine get_X9_75 (pc := 4) C (wg hG (by decide) (by decide)) dX9_changeCarry_4 ?_
  refine Vs_istore_n (lv' := [(0, _), (1, _), (2, _)]) (pc := 7) C dX9_changeCarry_7 rfl (by decide) rfl rfl ?_
  refine V_aload_n (pc := 8) C 0 dX9_changeCarry_8 rfl rfl ?_
  refine get_X9_64 (pc := 9) C (wg hG (by decide) (by decide)) dX9_changeCarry_9 ?_
  refine V_iload_n (pc := 12) C 1 dX9_changeCarry_12 rfl rfl ?_
  refine put_X9_75 (pc := 13) C (wg hG (by decide) (by decide)) dX9_changeCarry_13 ?_
  refine V_iload_n (pc := 16) C 2 dX9_changeCarry_16 rfl rfl ?_
  refine V_iret (pc := 17) C hr hk dX9_changeCarry_17 ⟨_, rfl, ?_⟩
  exact ⟨rfl, rfl⟩
theorem c_X0_penceAt (hG : 30 ≤ G) (hd : 1 ≤ d) (M : wS) {i : Nat} (hi : i < 7) (age week : Int32) : Ctr l D cy ad G d yX0_penceAt cX0_penceAt 5 (some .int) [.ref (ad 5 i), .int age, .int week] M (rI fun x M' => M' = M ∧ x = 0) := by
  refine Ctr.of (lv0 := [(0, _), (1, _), (2, _)]) (by decide) (Nat.le_of_ble_eq_true rfl) rfl ?_
  intro p e s m args below meth c C hr hk _
  have C : CX p s m args c cX0_penceAt 5 "CostsAge$Buyer" D cy ad G (wA ad G) (Rm d) d 0 0 := C
  refine V_iconst (v := 3) (pc := 0) C dX0_penceAt_0 (by decide) ?_
  refine V_iload_n (pc := 1) C 1 dX0_penceAt_1 rfl rfl ?_
  refine V_mmax (pc := 2) C qm_X0_28 q_maxs qn_java_lang_Math q_maxc (by omega) (Nat.le_of_ble_eq_true rfl) dX0_penceAt_2 ?_
  refine Vs_istore_n (lv' := [(0, _), (1, _), (2, _), (3, _)]) (pc := 5) C dX0_penceAt_5 rfl (by decide) rfl rfl ?_
  refine V_iload_n (pc := 6) C 1 dX0_penceAt_6 rfl rfl ?_
  refine V_iconst (v := 0) (pc := 7) C dX0_penceAt_7 (by decide) ?_
  refine V_iload_n (pc := 8) C 1 dX0_penceAt_8 rfl rfl ?_
  refine V_bipush (v := 60) (pc := 9) C dX0_penceAt_9 (by decide) ?_
  refine V_isub (pc := 11) C dX0_penceAt_11 ?_
  refine V_mmax (pc := 12) C qm_X0_28 q_maxs qn_java_lang_Math q_maxc (by omega) (Nat.le_of_ble_eq_true rfl) dX0_penceAt_12 ?_
  refine V_iconst (v := 2) (pc := 15) C dX0_penceAt_15 (by decide) ?_
  refine V_idiv (pc := 16) C dX0_penceAt_16 (by decide) ?_
  refine V_isub (pc := 17) C dX0_penceAt_17 ?_
  refine Vs_istore (lv' := [(0, _), (1, _), (2, _), (3, _), (4, _)]) (pc := 18) C dX0_penceAt_18 (by decide) rfl rfl ?_
  refine V_aload_n (pc := 20) C 0 dX0_penceAt_20 rfl rfl ?_
  refine get_X0_15 (pc := 21) C (wg hG (by decide) hi) dX0_penceAt_21 ?_
  refine V_tbl (pc := 24) C dX0_penceAt_24 rfl (fun j_24 o_24 t_24 ho_24 ht_24 h_24 _ => ?_) (fun t_24 ht_24 h_24 => ?_) (by decide +kernel) (by decide)
  · match j_24, ho_24, h_24 with
    | 0, ho_24, h_24 =>
      obtain rfl : ((36 : Int)) = o_24 := Option.some.inj ho_24
      obtain rfl : t_24 = 60 := by omega
      refine V_iload_n (pc := 60) C 3 dX0_penceAt_60 rfl rfl ?_
      refine V_iret (pc := 61) C hr hk dX0_penceAt_61 ⟨_, rfl, ?_⟩
      sorry
    | 1, ho_24, h_24 =>
      obtain rfl : ((38 : Int)) = o_24 := Option.some.inj ho_24
      obtain rfl : t_24 = 62 := by omega
      refine V_iload (pc := 62) C 4 dX0_penceAt_62 rfl ?_
      refine V_iret (pc := 64) C hr hk dX0_penceAt_64 ⟨_, rfl, ?_⟩
      sorry
    | 2, ho_24, h_24 =>
      obtain rfl : ((41 : Int)) = o_24 := Option.some.inj ho_24
      obtain rfl : t_24 = 65 := by omega
      refine V_iconst (v := 2) (pc := 65) C dX0_penceAt_65 (by decide) ?_
      refine V_iload_n (pc := 66) C 3 dX0_penceAt_66 rfl rfl ?_
      refine V_imul (pc := 67) C dX0_penceAt_67 ?_
      refine V_iret (pc := 68) C hr hk dX0_penceAt_68 ⟨_, rfl, ?_⟩
      sorry
    | 3, ho_24, h_24 =>
      obtain rfl : ((45 : Int)) = o_24 := Option.some.inj ho_24
      obtain rfl : t_24 = 69 := by omega
      refine V_iload_n (pc := 69) C 2 dX0_penceAt_69 rfl rfl ?_
      refine V_iconst (v := 4) (pc := 70) C dX0_penceAt_70 (by decide) ?_
      refine V_irem (pc := 71) C dX0_penceAt_71 (by decide) ?_
      refine V_aload_n (pc := 72) C 0 dX0_penceAt_72 rfl rfl ?_
      refine get_X0_31 (pc := 73) C (wg hG (by decide) hi) dX0_penceAt_73 ?_
      refine V_iconst (v := 4) (pc := 76) C dX0_penceAt_76 (by decide) ?_
      refine V_irem (pc := 77) C dX0_penceAt_77 (by decide) ?_
      refine V_icmp_ne (tgt := 87) (pc := 78) C dX0_penceAt_78 (by decide) (fun h_78 => ?_) (fun h_78 => ?_)
      · refine V_iload_n (pc := 87) C 3 dX0_penceAt_87 rfl rfl ?_
        refine V_iret (pc := 88) C hr hk dX0_penceAt_88 ⟨_, rfl, ?_⟩
        sorry
      · refine V_iload_n (pc := 81) C 3 dX0_penceAt_81 rfl rfl ?_
        refine V_iconst (v := 1) (pc := 82) C dX0_penceAt_82 (by decide) ?_
        refine V_iadd (pc := 83) C dX0_penceAt_83 ?_
        refine V_goto (tgt := 88) (pc := 84) C dX0_penceAt_84 (by decide) ?_
        refine V_iret (pc := 88) C hr hk dX0_penceAt_88 ⟨_, rfl, ?_⟩
        sorry
    | 4, ho_24, h_24 =>
      obtain rfl : ((65 : Int)) = o_24 := Option.some.inj ho_24
      obtain rfl : t_24 = 89 := by omega
      refine V_iconst (v := 0) (pc := 89) C dX0_penceAt_89 (by decide) ?_
      refine V_iload (pc := 90) C 4 dX0_penceAt_90 rfl ?_
      refine V_aload_n (pc := 92) C 0 dX0_penceAt_92 rfl rfl ?_
      refine get_X0_31 (pc := 93) C (wg hG (by decide) hi) dX0_penceAt_93 ?_
      refine V_isub (pc := 96) C dX0_penceAt_96 ?_
      refine V_mmax (pc := 97) C qm_X0_28 q_maxs qn_java_lang_Math q_maxc (by omega) (Nat.le_of_ble_eq_true rfl) dX0_penceAt_97 ?_
      refine V_iret (pc := 100) C hr hk dX0_penceAt_100 ⟨_, rfl, ?_⟩
      sorry
    | _ + 5, ho_24, h_24 => exact absurd ho_24 (by simp)
  · obtain rfl : t_24 = 101 := by omega
    refine V_iload_n (pc := 101) C 1 dX0_penceAt_101 rfl rfl ?_
    refine V_iret (pc := 102) C hr hk dX0_penceAt_102 ⟨_, rfl, ?_⟩
    sorry
end S10
