def kTellB (M : wS) (k : Nat) (what : Int32) : Int32 := if what = 0 then M.1 5 k 0 else if what = 1 then M.1 27 0 k else if what = 2 then M.1 5 k 1 else if what = 3 then M.1 28 0 k else if what = 4 then M.1 5 k 2 else if what = 5 then pPence (M.1 5 k 0) (M.1 5 k 2) (M.1 27 0 k) (M.1 26 0 4) else pAsks (M.1 5 k 0) (M.1 5 k 2) (M.1 28 0 k)
def kTellW (M : wS) (k : Nat) (what : Int32) : Int32 := if what = 7 then M.1 6 k 0 else if what = 8 then M.1 6 k 1 else if what = 9 then M.1 29 0 k else M.1 26 0 3 >>> (nI k &&& 31) &&& 1
def kTold (M : wS) (nb nt : Nat) (i what : Int32) : Int32 :=
  if 0 ≤ what ∧ what ≤ 6 then (if 0 ≤ i ∧ i < nI nb then kTellB M i.toNatClampNeg what else -2)
  else if 0 ≤ what ∧ what ≤ 10 then (if 0 ≤ i ∧ i < nI nt then kTellW M i.toNatClampNeg what else -2) else -2
section S33
variable {l : Launch} {D : va_G} {cy : Nat → ClassId} {ad : Nat → Nat → Nat} {G d : Nat}
theorem c_X9_tellOfBuyer (hG : 30 ≤ G) (hd : 2 ≤ d) (M : wS) (hB : IB M) {k : Nat} (hk : k < 7) (what : Int32) : Ctr l D cy ad G d yX9_tellOfBuyer cX9_tellOfBuyer 4 (some .int) [.ref (ad 0 0), .int (nI k), .int what] M (rI fun x M' => M' = M ∧ x = kTellB M k what) := by
  refine Ctr.of (lv0 := [(0, _), (1, _), (2, _)]) (by decide) (Nat.le_of_ble_eq_true rfl) rfl ?_
  intro p e s m args below meth c C hr hlk _
  have C : CX p s m args c cX9_tellOfBuyer 4 "CostsAge" D cy ad G (wA ad G) (Rm d) d 0 0 := C
  refine V_aload_n (pc := 0) C 0 dX9_tellOfBuyer_0 rfl rfl ?_
  refine get_X9_11 (pc := 1) C (wg hG (by decide) (by decide)) dX9_tellOfBuyer_1 ?_
  refine V_iload_n (pc := 4) C 1 dX9_tellOfBuyer_4 rfl rfl ?_
  refine V_aald (pc := 5) C (k) rfl hk (Nat.le_of_ble_eq_true rfl) (wg hG (by decide) (by decide)) wF_1 rfl dX9_tellOfBuyer_5 ?_
  refine Vs_astore_n (lv' := [(0, _), (1, _), (2, _), (3, _)]) (pc := 6) C dX9_tellOfBuyer_6 rfl (by decide) rfl rfl ?_
  refine V_iload_n (pc := 7) C 2 dX9_tellOfBuyer_7 rfl rfl ?_
  refine V_tbl (pc := 8) C dX9_tellOfBuyer_8 rfl (fun j_8 o_8 t_8 ho_8 ht_8 h_8 _ => ?_) (fun t_8 ht_8 h_8 => ?_) (by decide +kernel) (by decide)
  · match j_8, ho_8, h_8 with
    | 0, ho_8, h_8 =>
      obtain rfl : ((40 : Int)) = o_8 := Option.some.inj ho_8
      obtain rfl : t_8 = 48 := by omega
      have hw : what = 0 := by (simp only [i32_eq, Int32.le_iff_toInt_le, Int32.lt_iff_toInt_lt, Int32.not_le, Int32.not_lt, Int32.toInt_add, Int32.toInt_sub, Int32.toInt_mul, Int32.toInt_neg, Int32.toInt_div, tdv2, tdv4, tdv10, tdv52, tdv100, nI_T, apply_ite Int32.toInt, Int.bmod, Int32.reduceToInt] at *; omega)
      refine V_aload_n (pc := 48) C 3 dX9_tellOfBuyer_48 rfl rfl ?_
      refine get_X9_109 (pc := 49) C (wg hG (by decide) (show (k) < 7 from hk)) dX9_tellOfBuyer_49 ?_
      refine V_iret (pc := 52) C hr hlk dX9_tellOfBuyer_52 ⟨_, rfl, ?_⟩
      exact ⟨rfl, by rw [hw]; rfl⟩
    | 1, ho_8, h_8 =>
      obtain rfl : ((45 : Int)) = o_8 := Option.some.inj ho_8
      obtain rfl : t_8 = 53 := by omega
      have hw : what = 1 := by (simp only [i32_eq, Int32.le_iff_toInt_le, Int32.lt_iff_toInt_lt, Int32.not_le, Int32.not_lt, Int32.toInt_add, Int32.toInt_sub, Int32.toInt_mul, Int32.toInt_neg, Int32.toInt_div, tdv2, tdv4, tdv10, tdv52, tdv100, nI_T, apply_ite Int32.toInt, Int.bmod, Int32.reduceToInt] at *; omega)
      refine V_aload_n (pc := 53) C 0 dX9_tellOfBuyer_53 rfl rfl ?_
      refine get_X9_64 (pc := 54) C (wg hG (by decide) (by decide)) dX9_tellOfBuyer_54 ?_
      refine get_X9_118 (pc := 57) C (wg hG (by decide) (by decide)) dX9_tellOfBuyer_57 ?_
      refine V_iload_n (pc := 60) C 1 dX9_tellOfBuyer_60 rfl rfl ?_
      refine V_iald (pc := 61) C (k) rfl hk (Nat.le_of_ble_eq_true rfl) (wg hG (by decide) (by decide)) wF_27 dX9_tellOfBuyer_61 ?_
      refine V_iret (pc := 62) C hr hlk dX9_tellOfBuyer_62 ⟨_, rfl, ?_⟩
      exact ⟨rfl, by rw [hw]; rfl⟩
    | 2, ho_8, h_8 =>
      obtain rfl : ((55 : Int)) = o_8 := Option.some.inj ho_8
      obtain rfl : t_8 = 63 := by omega
      have hw : what = 2 := by (simp only [i32_eq, Int32.le_iff_toInt_le, Int32.lt_iff_toInt_lt, Int32.not_le, Int32.not_lt, Int32.toInt_add, Int32.toInt_sub, Int32.toInt_mul, Int32.toInt_neg, Int32.toInt_div, tdv2, tdv4, tdv10, tdv52, tdv100, nI_T, apply_ite Int32.toInt, Int.bmod, Int32.reduceToInt] at *; omega)
      refine V_aload_n (pc := 63) C 3 dX9_tellOfBuyer_63 rfl rfl ?_
      refine get_X9_112 (pc := 64) C (wg hG (by decide) (show (k) < 7 from hk)) dX9_tellOfBuyer_64 ?_
      refine V_iret (pc := 67) C hr hlk dX9_tellOfBuyer_67 ⟨_, rfl, ?_⟩
      exact ⟨rfl, by rw [hw]; rfl⟩
    | 3, ho_8, h_8 =>
      obtain rfl : ((60 : Int)) = o_8 := Option.some.inj ho_8
      obtain rfl : t_8 = 68 := by omega
      have hw : what = 3 := by (simp only [i32_eq, Int32.le_iff_toInt_le, Int32.lt_iff_toInt_lt, Int32.not_le, Int32.not_lt, Int32.toInt_add, Int32.toInt_sub, Int32.toInt_mul, Int32.toInt_neg, Int32.toInt_div, tdv2, tdv4, tdv10, tdv52, tdv100, nI_T, apply_ite Int32.toInt, Int.bmod, Int32.reduceToInt] at *; omega)
      refine V_aload_n (pc := 68) C 0 dX9_tellOfBuyer_68 rfl rfl ?_
      refine get_X9_64 (pc := 69) C (wg hG (by decide) (by decide)) dX9_tellOfBuyer_69 ?_
      refine get_X9_122 (pc := 72) C (wg hG (by decide) (by decide)) dX9_tellOfBuyer_72 ?_
      refine V_iload_n (pc := 75) C 1 dX9_tellOfBuyer_75 rfl rfl ?_
      refine V_iald (pc := 76) C (k) rfl hk (Nat.le_of_ble_eq_true rfl) (wg hG (by decide) (by decide)) wF_28 dX9_tellOfBuyer_76 ?_
      refine V_iret (pc := 77) C hr hlk dX9_tellOfBuyer_77 ⟨_, rfl, ?_⟩
      exact ⟨rfl, by rw [hw]; rfl⟩
    | 4, ho_8, h_8 =>
      obtain rfl : ((70 : Int)) = o_8 := Option.some.inj ho_8
      obtain rfl : t_8 = 78 := by omega
      have hw : what = 4 := by (simp only [i32_eq, Int32.le_iff_toInt_le, Int32.lt_iff_toInt_lt, Int32.not_le, Int32.not_lt, Int32.toInt_add, Int32.toInt_sub, Int32.toInt_mul, Int32.toInt_neg, Int32.toInt_div, tdv2, tdv4, tdv10, tdv52, tdv100, nI_T, apply_ite Int32.toInt, Int.bmod, Int32.reduceToInt] at *; omega)
      refine V_aload_n (pc := 78) C 3 dX9_tellOfBuyer_78 rfl rfl ?_
      refine get_X9_115 (pc := 79) C (wg hG (by decide) (show (k) < 7 from hk)) dX9_tellOfBuyer_79 ?_
      refine V_iret (pc := 82) C hr hlk dX9_tellOfBuyer_82 ⟨_, rfl, ?_⟩
      exact ⟨rfl, by rw [hw]; rfl⟩
    | 5, ho_8, h_8 =>
      obtain rfl : ((75 : Int)) = o_8 := Option.some.inj ho_8
      obtain rfl : t_8 = 83 := by omega
      have hw : what = 5 := by (simp only [i32_eq, Int32.le_iff_toInt_le, Int32.lt_iff_toInt_lt, Int32.not_le, Int32.not_lt, Int32.toInt_add, Int32.toInt_sub, Int32.toInt_mul, Int32.toInt_neg, Int32.toInt_div, tdv2, tdv4, tdv10, tdv52, tdv100, nI_T, apply_ite Int32.toInt, Int.bmod, Int32.reduceToInt] at *; omega)
      refine V_aload_n (pc := 83) C 3 dX9_tellOfBuyer_83 rfl rfl ?_
      refine V_aload_n (pc := 84) C 0 dX9_tellOfBuyer_84 rfl rfl ?_
      refine get_X9_64 (pc := 85) C (wg hG (by decide) (by decide)) dX9_tellOfBuyer_85 ?_
      refine get_X9_118 (pc := 88) C (wg hG (by decide) (by decide)) dX9_tellOfBuyer_88 ?_
      refine V_iload_n (pc := 91) C 1 dX9_tellOfBuyer_91 rfl rfl ?_
      refine V_iald (pc := 92) C (k) rfl hk (Nat.le_of_ble_eq_true rfl) (wg hG (by decide) (by decide)) wF_27 dX9_tellOfBuyer_92 ?_
      refine V_aload_n (pc := 93) C 0 dX9_tellOfBuyer_93 rfl rfl ?_
      refine get_X9_64 (pc := 94) C (wg hG (by decide) (by decide)) dX9_tellOfBuyer_94 ?_
      refine get_X9_160 (pc := 97) C (wg hG (by decide) (by decide)) dX9_tellOfBuyer_97 ?_
      refine call_X9_163 (pc := 100) C (c_X0_penceAt (d := d - 1) hG (by omega) M hk _ _ (hB k hk).2.2.2.1 (hB k hk).2.2.1) (by omega) (wg hG (by decide) (show (k) < 7 from hk)) (Nat.le_of_ble_eq_true rfl) dX9_tellOfBuyer_100 (fun x_100 M_100 h_100 => ?_)
      obtain ⟨e_100, rfl⟩ := h_100
      have e_100 := e_100.symm
      subst e_100
      refine V_iret (pc := 103) C hr hlk dX9_tellOfBuyer_103 ⟨_, rfl, ?_⟩
      exact ⟨rfl, by rw [hw]; rfl⟩
    | _ + 6, ho_8, h_8 => exact absurd ho_8 (by simp)
  · obtain rfl : t_8 = 104 := by omega
    have z : ∀ q : Int32, 0 ≤ q.toInt ∧ q.toInt ≤ 5 → ¬ what = q := fun q hq e => by
      rw [e] at h_8
      omega
    refine V_aload_n (pc := 104) C 3 dX9_tellOfBuyer_104 rfl rfl ?_
    refine V_aload_n (pc := 105) C 0 dX9_tellOfBuyer_105 rfl rfl ?_
    refine get_X9_64 (pc := 106) C (wg hG (by decide) (by decide)) dX9_tellOfBuyer_106 ?_
    refine get_X9_122 (pc := 109) C (wg hG (by decide) (by decide)) dX9_tellOfBuyer_109 ?_
    refine V_iload_n (pc := 112) C 1 dX9_tellOfBuyer_112 rfl rfl ?_
    refine V_iald (pc := 113) C (k) rfl hk (Nat.le_of_ble_eq_true rfl) (wg hG (by decide) (by decide)) wF_28 dX9_tellOfBuyer_113 ?_
    refine call_X9_166 (pc := 114) C (c_X0_asksBy (d := d - 1) hG M hk _) (by omega) (wg hG (by decide) (show (k) < 7 from hk)) (Nat.le_of_ble_eq_true rfl) dX9_tellOfBuyer_114 (fun x_114 M_114 h_114 => ?_)
    obtain ⟨e_114, rfl⟩ := h_114
    have e_114 := e_114.symm
    subst e_114
    refine V_iret (pc := 117) C hr hlk dX9_tellOfBuyer_117 ⟨_, rfl, ?_⟩
    exact ⟨rfl, by rw [kTellB, if_neg (z 0 (by decide)), if_neg (z 1 (by decide)), if_neg (z 2 (by decide)), if_neg (z 3 (by decide)), if_neg (z 4 (by decide)), if_neg (z 5 (by decide))]⟩
theorem c_X9_tellOfWare (hG : 30 ≤ G) (M : wS) {k : Nat} (hk : k < 7) (what : Int32) : Ctr l D cy ad G d yX9_tellOfWare cX9_tellOfWare 3 (some .int) [.ref (ad 0 0), .int (nI k), .int what] M (rI fun x M' => M' = M ∧ x = kTellW M k what) := by
  refine Ctr.of (lv0 := [(0, _), (1, _), (2, _)]) (by decide) (Nat.le_of_ble_eq_true rfl) rfl ?_
  intro p e s m args below meth c C hr hlk _
  have C : CX p s m args c cX9_tellOfWare 3 "CostsAge" D cy ad G (wA ad G) (Rm d) d 0 0 := C
  refine V_iload_n (pc := 0) C 2 dX9_tellOfWare_0 rfl rfl ?_
  refine V_tbl (pc := 1) C dX9_tellOfWare_1 rfl (fun j_1 o_1 t_1 ho_1 ht_1 h_1 _ => ?_) (fun t_1 ht_1 h_1 => ?_) (by decide +kernel) (by decide)
  · match j_1, ho_1, h_1 with
    | 0, ho_1, h_1 =>
      obtain rfl : ((27 : Int)) = o_1 := Option.some.inj ho_1
      obtain rfl : t_1 = 28 := by omega
      have hw : what = 7 := by (simp only [i32_eq, Int32.le_iff_toInt_le, Int32.lt_iff_toInt_lt, Int32.not_le, Int32.not_lt, Int32.toInt_add, Int32.toInt_sub, Int32.toInt_mul, Int32.toInt_neg, Int32.toInt_div, tdv2, tdv4, tdv10, tdv52, tdv100, nI_T, apply_ite Int32.toInt, Int.bmod, Int32.reduceToInt] at *; omega)
      refine V_aload_n (pc := 28) C 0 dX9_tellOfWare_28 rfl rfl ?_
      refine get_X9_17 (pc := 29) C (wg hG (by decide) (by decide)) dX9_tellOfWare_29 ?_
      refine V_iload_n (pc := 32) C 1 dX9_tellOfWare_32 rfl rfl ?_
      refine V_aald (pc := 33) C (k) rfl hk (Nat.le_of_ble_eq_true rfl) (wg hG (by decide) (by decide)) wF_2 rfl dX9_tellOfWare_33 ?_
      refine get_X9_127 (pc := 34) C (wg hG (by decide) (show (k) < 7 from hk)) dX9_tellOfWare_34 ?_
      refine V_iret (pc := 37) C hr hlk dX9_tellOfWare_37 ⟨_, rfl, ?_⟩
      exact ⟨rfl, by rw [hw]; rfl⟩
    | 1, ho_1, h_1 =>
      obtain rfl : ((37 : Int)) = o_1 := Option.some.inj ho_1
      obtain rfl : t_1 = 38 := by omega
      have hw : what = 8 := by (simp only [i32_eq, Int32.le_iff_toInt_le, Int32.lt_iff_toInt_lt, Int32.not_le, Int32.not_lt, Int32.toInt_add, Int32.toInt_sub, Int32.toInt_mul, Int32.toInt_neg, Int32.toInt_div, tdv2, tdv4, tdv10, tdv52, tdv100, nI_T, apply_ite Int32.toInt, Int.bmod, Int32.reduceToInt] at *; omega)
      refine V_aload_n (pc := 38) C 0 dX9_tellOfWare_38 rfl rfl ?_
      refine get_X9_17 (pc := 39) C (wg hG (by decide) (by decide)) dX9_tellOfWare_39 ?_
      refine V_iload_n (pc := 42) C 1 dX9_tellOfWare_42 rfl rfl ?_
      refine V_aald (pc := 43) C (k) rfl hk (Nat.le_of_ble_eq_true rfl) (wg hG (by decide) (by decide)) wF_2 rfl dX9_tellOfWare_43 ?_
      refine get_X9_130 (pc := 44) C (wg hG (by decide) (show (k) < 7 from hk)) dX9_tellOfWare_44 ?_
      refine V_iret (pc := 47) C hr hlk dX9_tellOfWare_47 ⟨_, rfl, ?_⟩
      exact ⟨rfl, by rw [hw]; rfl⟩
    | 2, ho_1, h_1 =>
      obtain rfl : ((47 : Int)) = o_1 := Option.some.inj ho_1
      obtain rfl : t_1 = 48 := by omega
      have hw : what = 9 := by (simp only [i32_eq, Int32.le_iff_toInt_le, Int32.lt_iff_toInt_lt, Int32.not_le, Int32.not_lt, Int32.toInt_add, Int32.toInt_sub, Int32.toInt_mul, Int32.toInt_neg, Int32.toInt_div, tdv2, tdv4, tdv10, tdv52, tdv100, nI_T, apply_ite Int32.toInt, Int.bmod, Int32.reduceToInt] at *; omega)
      refine V_aload_n (pc := 48) C 0 dX9_tellOfWare_48 rfl rfl ?_
      refine get_X9_64 (pc := 49) C (wg hG (by decide) (by decide)) dX9_tellOfWare_49 ?_
      refine get_X9_133 (pc := 52) C (wg hG (by decide) (by decide)) dX9_tellOfWare_52 ?_
      refine V_iload_n (pc := 55) C 1 dX9_tellOfWare_55 rfl rfl ?_
      refine V_iald (pc := 56) C (k) rfl hk (Nat.le_of_ble_eq_true rfl) (wg hG (by decide) (by decide)) wF_29 dX9_tellOfWare_56 ?_
      refine V_iret (pc := 57) C hr hlk dX9_tellOfWare_57 ⟨_, rfl, ?_⟩
      exact ⟨rfl, by rw [hw]; rfl⟩
    | _ + 3, ho_1, h_1 => exact absurd ho_1 (by simp)
  · obtain rfl : t_1 = 58 := by omega
    have z : ∀ q : Int32, 7 ≤ q.toInt ∧ q.toInt ≤ 9 → ¬ what = q := fun q hq e => by
      rw [e] at h_1
      omega
    refine V_aload_n (pc := 58) C 0 dX9_tellOfWare_58 rfl rfl ?_
    refine get_X9_64 (pc := 59) C (wg hG (by decide) (by decide)) dX9_tellOfWare_59 ?_
    refine get_X9_169 (pc := 62) C (wg hG (by decide) (by decide)) dX9_tellOfWare_62 ?_
    refine V_iload_n (pc := 65) C 1 dX9_tellOfWare_65 rfl rfl ?_
    refine V_ishr (pc := 66) C dX9_tellOfWare_66 ?_
    refine V_iconst (v := 1) (pc := 67) C dX9_tellOfWare_67 (by decide) ?_
    refine V_iand (pc := 68) C dX9_tellOfWare_68 ?_
    refine V_iret (pc := 69) C hr hlk dX9_tellOfWare_69 ⟨_, rfl, ?_⟩
    exact ⟨rfl, by rw [kTellW, if_neg (z 7 (by decide)), if_neg (z 8 (by decide)), if_neg (z 9 (by decide))]⟩
theorem c_X9_told (hG : 30 ≤ G) (hd : 3 ≤ d) (M : wS) {nb nt : Nat} (hnb : M.1 0 0 11 = nI nb) (hn7 : nb ≤ 7) (hnt : M.1 0 0 12 = nI nt) (ht7 : nt ≤ 7) (hB : IB M) (i what : Int32) : Ctr l D cy ad G d yX9_told cX9_told 3 (some .int) [.ref (ad 0 0), .int i, .int what] M (rI fun x M' => M' = M ∧ x = kTold M nb nt i what) := by
  refine Ctr.of (lv0 := [(0, _), (1, _), (2, _)]) (by decide) (Nat.le_of_ble_eq_true rfl) rfl ?_
  intro p e s m args below meth c C hr hlk _
  have C : CX p s m args c cX9_told 3 "CostsAge" D cy ad G (wA ad G) (Rm d) d 0 0 := C
  refine V_iload_n (pc := 0) C 2 dX9_told_0 rfl rfl ?_
  refine V_bipush (v := 6) (pc := 1) C dX9_told_1 (by decide) ?_
  refine call_X9_102 (pc := 3) C (c_X9_isWithin (d := d - 1) M _ _) (by omega) (Nat.le_of_ble_eq_true rfl) dX9_told_3 (fun x_3 M_3 h_3 => ?_)
  obtain ⟨e_3, rfl⟩ := h_3
  have e_3 := e_3.symm
  subst e_3
  refine V_if_eq (tgt := 29) (pc := 6) C dX9_told_6 (by decide) (fun h_6 => ?_) (fun h_6 => ?_)
  · have h_6 := bJ_0.mp h_6
    refine V_iload_n (pc := 29) C 2 dX9_told_29 rfl rfl ?_
    refine V_bipush (v := 10) (pc := 30) C dX9_told_30 (by decide) ?_
    refine call_X9_102 (pc := 32) C (c_X9_isWithin (d := d - 1) M _ _) (by omega) (Nat.le_of_ble_eq_true rfl) dX9_told_32 (fun x_32 M_32 h_32 => ?_)
    obtain ⟨e_32, rfl⟩ := h_32
    have e_32 := e_32.symm
    subst e_32
    refine V_if_eq (tgt := 58) (pc := 35) C dX9_told_35 (by decide) (fun h_35 => ?_) (fun h_35 => ?_)
    · have h_35 := bJ_0.mp h_35
      refine V_bipush (v := -2) (pc := 58) C dX9_told_58 (by decide) ?_
      refine V_iret (pc := 60) C hr hlk dX9_told_60 ⟨_, rfl, ?_⟩
      exact ⟨rfl, by rw [kTold, if_neg h_6, if_neg h_35]⟩
    · have h_35 := bJ_1.mp h_35
      refine V_aload_n (pc := 38) C 0 dX9_told_38 rfl rfl ?_
      refine V_iload_n (pc := 39) C 1 dX9_told_39 rfl rfl ?_
      refine call_X9_147 (pc := 40) C (c_X9_isWare (d := d - 1) hG M _) (by omega) (wg hG (by decide) (by decide)) (Nat.le_of_ble_eq_true rfl) dX9_told_40 (fun x_40 M_40 h_40 => ?_)
      obtain ⟨e_40, rfl⟩ := h_40
      have e_40 := e_40.symm
      subst e_40
      refine V_if_eq (tgt := 55) (pc := 43) C dX9_told_43 (by decide) (fun h_43 => ?_) (fun h_43 => ?_)
      · have h_43 := bJ_0.mp h_43
        rw [hnt] at h_43
        refine V_bipush (v := -2) (pc := 55) C dX9_told_55 (by decide) ?_
        refine V_iret (pc := 57) C hr hlk dX9_told_57 ⟨_, rfl, ?_⟩
        exact ⟨rfl, by rw [kTold, if_neg h_6, if_pos h_35, if_neg h_43]⟩
      · have h_43 := bJ_1.mp h_43
        rw [hnt] at h_43
        obtain ⟨k, hk, rfl⟩ := ix_of h_43.1 h_43.2 (by omega)
        refine V_aload_n (pc := 46) C 0 dX9_told_46 rfl rfl ?_
        refine V_iload_n (pc := 47) C 1 dX9_told_47 rfl rfl ?_
        refine V_iload_n (pc := 48) C 2 dX9_told_48 rfl rfl ?_
        refine call_X9_157 (pc := 49) C (c_X9_tellOfWare (d := d - 1) hG M (k := k) (by omega) _) (by omega) (wg hG (by decide) (by decide)) (Nat.le_of_ble_eq_true rfl) dX9_told_49 (fun x_49 M_49 h_49 => ?_)
        obtain ⟨e_49, rfl⟩ := h_49
        have e_49 := e_49.symm
        subst e_49
        refine V_goto (tgt := 57) (pc := 52) C dX9_told_52 (by decide) ?_
        refine V_iret (pc := 57) C hr hlk dX9_told_57 ⟨_, rfl, ?_⟩
        exact ⟨rfl, by rw [kTold, if_neg h_6, if_pos h_35, if_pos h_43, nI_clamp (by omega)]⟩
  · have h_6 := bJ_1.mp h_6
    refine V_aload_n (pc := 9) C 0 dX9_told_9 rfl rfl ?_
    refine V_iload_n (pc := 10) C 1 dX9_told_10 rfl rfl ?_
    refine call_X9_136 (pc := 11) C (c_X9_isBuyer (d := d - 1) hG M _) (by omega) (wg hG (by decide) (by decide)) (Nat.le_of_ble_eq_true rfl) dX9_told_11 (fun x_11 M_11 h_11 => ?_)
    obtain ⟨e_11, rfl⟩ := h_11
    have e_11 := e_11.symm
    subst e_11
    refine V_if_eq (tgt := 26) (pc := 14) C dX9_told_14 (by decide) (fun h_14 => ?_) (fun h_14 => ?_)
    · have h_14 := bJ_0.mp h_14
      rw [hnb] at h_14
      refine V_bipush (v := -2) (pc := 26) C dX9_told_26 (by decide) ?_
      refine V_iret (pc := 28) C hr hlk dX9_told_28 ⟨_, rfl, ?_⟩
      exact ⟨rfl, by rw [kTold, if_pos h_6, if_neg h_14]⟩
    · have h_14 := bJ_1.mp h_14
      rw [hnb] at h_14
      obtain ⟨k, hk, rfl⟩ := ix_of h_14.1 h_14.2 (by omega)
      refine V_aload_n (pc := 17) C 0 dX9_told_17 rfl rfl ?_
      refine V_iload_n (pc := 18) C 1 dX9_told_18 rfl rfl ?_
      refine V_iload_n (pc := 19) C 2 dX9_told_19 rfl rfl ?_
      refine call_X9_153 (pc := 20) C (c_X9_tellOfBuyer (d := d - 1) hG (by omega) M hB (k := k) (by omega) _) (by omega) (wg hG (by decide) (by decide)) (Nat.le_of_ble_eq_true rfl) dX9_told_20 (fun x_20 M_20 h_20 => ?_)
      obtain ⟨e_20, rfl⟩ := h_20
      have e_20 := e_20.symm
      subst e_20
      refine V_goto (tgt := 28) (pc := 23) C dX9_told_23 (by decide) ?_
      refine V_iret (pc := 28) C hr hlk dX9_told_28 ⟨_, rfl, ?_⟩
      exact ⟨rfl, by rw [kTold, if_pos h_6, if_pos h_14, nI_clamp (by omega)]⟩
def kForce (M : wS) (text : Int32) : Int32 × wS := if 0 ≤ text ∧ text < M.1 0 0 13 then (M.1 26 0 8, mset M 26 0 8 text) else (-2, M)
theorem c_X9_force (hG : 30 ≤ G) (M : wS) (text : Int32) : Ctr l D cy ad G d yX9_force cX9_force 3 (some .int) [.ref (ad 0 0), .int text] M (rI fun x M' => (x, M') = kForce M text) := by
  refine Ctr.of (lv0 := [(0, _), (1, _)]) (by decide) (Nat.le_of_ble_eq_true rfl) rfl ?_
  intro p e s m args below meth c C hr hlk _
  have C : CX p s m args c cX9_force 3 "CostsAge" D cy ad G (wA ad G) (Rm d) d 0 0 := C
  refine V_iload_n (pc := 0) C 1 dX9_force_0 rfl rfl ?_
  refine V_if_lt (tgt := 12) (pc := 1) C dX9_force_1 (by decide) (fun h_1 => ?_) (fun h_1 => ?_)
  · refine V_bipush (v := -2) (pc := 12) C dX9_force_12 (by decide) ?_
    refine V_iret (pc := 14) C hr hlk dX9_force_14 ⟨_, rfl, ?_⟩
    rw [kForce, if_neg]
    intro z
    first | exact h_9 z.2 | exact absurd z.1 (by (simp only [i32_eq, Int32.le_iff_toInt_le, Int32.lt_iff_toInt_lt, Int32.not_le, Int32.not_lt, Int32.toInt_add, Int32.toInt_sub, Int32.toInt_mul, Int32.toInt_neg, Int32.toInt_div, tdv2, tdv4, tdv10, tdv52, tdv100, nI_T, apply_ite Int32.toInt, Int.bmod, Int32.reduceToInt] at *; omega))
  · refine V_iload_n (pc := 4) C 1 dX9_force_4 rfl rfl ?_
    refine V_aload_n (pc := 5) C 0 dX9_force_5 rfl rfl ?_
    refine get_X9_99 (pc := 6) C (wg hG (by decide) (by decide)) dX9_force_6 ?_
    refine V_icmp_lt (tgt := 15) (pc := 9) C dX9_force_9 (by decide) (fun h_9 => ?_) (fun h_9 => ?_)
    · refine V_aload_n (pc := 15) C 0 dX9_force_15 rfl rfl ?_
      refine get_X9_64 (pc := 16) C (wg hG (by decide) (by decide)) dX9_force_16 ?_
      refine get_X9_173 (pc := 19) C (wg hG (by decide) (by decide)) dX9_force_19 ?_
      refine Vs_istore_n (lv' := [(0, _), (1, _), (2, _)]) (pc := 22) C dX9_force_22 rfl (by decide) rfl rfl ?_
      refine V_aload_n (pc := 23) C 0 dX9_force_23 rfl rfl ?_
      refine get_X9_64 (pc := 24) C (wg hG (by decide) (by decide)) dX9_force_24 ?_
      refine V_iload_n (pc := 27) C 1 dX9_force_27 rfl rfl ?_
      refine put_X9_173 (pc := 28) C (wg hG (by decide) (by decide)) dX9_force_28 ?_
      refine V_iload_n (pc := 31) C 2 dX9_force_31 rfl rfl ?_
      refine V_iret (pc := 32) C hr hlk dX9_force_32 ⟨_, rfl, ?_⟩
      rw [kForce, if_pos ⟨by (simp only [i32_eq, Int32.le_iff_toInt_le, Int32.lt_iff_toInt_lt, Int32.not_le, Int32.not_lt, Int32.toInt_add, Int32.toInt_sub, Int32.toInt_mul, Int32.toInt_neg, Int32.toInt_div, tdv2, tdv4, tdv10, tdv52, tdv100, nI_T, apply_ite Int32.toInt, Int.bmod, Int32.reduceToInt] at *; omega), h_9⟩]
    · refine V_bipush (v := -2) (pc := 12) C dX9_force_12 (by decide) ?_
      refine V_iret (pc := 14) C hr hlk dX9_force_14 ⟨_, rfl, ?_⟩
      rw [kForce, if_neg]
      intro z
      first | exact h_9 z.2 | exact absurd z.1 (by (simp only [i32_eq, Int32.le_iff_toInt_le, Int32.lt_iff_toInt_lt, Int32.not_le, Int32.not_lt, Int32.toInt_add, Int32.toInt_sub, Int32.toInt_mul, Int32.toInt_neg, Int32.toInt_div, tdv2, tdv4, tdv10, tdv52, tdv100, nI_T, apply_ite Int32.toInt, Int.bmod, Int32.reduceToInt] at *; omega))
def kYears (M : wS) (nb : Nat) (b n : Int32) : Int32 := if (0 ≤ b ∧ b < nI nb) ∧ (0 ≤ n ∧ n ≤ 103) then pAgeC (M.1 5 b.toNatClampNeg 1) (M.1 27 0 b.toNatClampNeg) (M.1 26 0 4) n else -2
theorem c_X9_years (hG : 30 ≤ G) (hd : 2 ≤ d) (M : wS) {nb : Nat} (hnb : M.1 0 0 11 = nI nb) (hn7 : nb ≤ 7) (b n : Int32) : Ctr l D cy ad G d yX9_years cX9_years 3 (some .int) [.ref (ad 0 0), .int b, .int n] M (rI fun x M' => M' = M ∧ x = kYears M nb b n) := by
  refine Ctr.of (lv0 := [(0, _), (1, _), (2, _)]) (by decide) (Nat.le_of_ble_eq_true rfl) rfl ?_
  intro p e s m args below meth c C hr hlk _
  have C : CX p s m args c cX9_years 3 "CostsAge" D cy ad G (wA ad G) (Rm d) d 0 0 := C
  refine V_aload_n (pc := 0) C 0 dX9_years_0 rfl rfl ?_
  refine V_iload_n (pc := 1) C 1 dX9_years_1 rfl rfl ?_
  refine call_X9_136 (pc := 2) C (c_X9_isBuyer (d := d - 1) hG M _) (by omega) (wg hG (by decide) (by decide)) (Nat.le_of_ble_eq_true rfl) dX9_years_2 (fun x_2 M_2 h_2 => ?_)
  obtain ⟨e_2, rfl⟩ := h_2
  have e_2 := e_2.symm
  subst e_2
  refine V_if_eq (tgt := 17) (pc := 5) C dX9_years_5 (by decide) (fun h_5 => ?_) (fun h_5 => ?_)
  · have h_5 := bJ_0.mp h_5
    rw [hnb] at h_5
    refine V_bipush (v := -2) (pc := 17) C dX9_years_17 (by decide) ?_
    refine V_iret (pc := 19) C hr hlk dX9_years_19 ⟨_, rfl, ?_⟩
    exact ⟨rfl, by rw [kYears, if_neg (fun z => h_5 z.1)]⟩
  · have h_5 := bJ_1.mp h_5
    rw [hnb] at h_5
    obtain ⟨k, hk, rfl⟩ := ix_of h_5.1 h_5.2 (by omega)
    refine V_iload_n (pc := 8) C 2 dX9_years_8 rfl rfl ?_
    refine V_bipush (v := 103) (pc := 9) C dX9_years_9 (by decide) ?_
    refine call_X9_102 (pc := 11) C (c_X9_isWithin (d := d - 1) M _ _) (by omega) (Nat.le_of_ble_eq_true rfl) dX9_years_11 (fun x_11 M_11 h_11 => ?_)
    obtain ⟨e_11, rfl⟩ := h_11
    have e_11 := e_11.symm
    subst e_11
    refine V_if_ne (tgt := 20) (pc := 14) C dX9_years_14 (by decide) (fun h_14 => ?_) (fun h_14 => ?_)
    · have h_14 := bJ_1.mp h_14
      refine V_aload_n (pc := 20) C 0 dX9_years_20 rfl rfl ?_
      refine get_X9_11 (pc := 21) C (wg hG (by decide) (by decide)) dX9_years_21 ?_
      refine V_iload_n (pc := 24) C 1 dX9_years_24 rfl rfl ?_
      refine V_aald (pc := 25) C (k) rfl (by omega) (Nat.le_of_ble_eq_true rfl) (wg hG (by decide) (by decide)) wF_1 rfl dX9_years_25 ?_
      refine V_iload_n (pc := 26) C 2 dX9_years_26 rfl rfl ?_
      refine V_aload_n (pc := 27) C 0 dX9_years_27 rfl rfl ?_
      refine get_X9_64 (pc := 28) C (wg hG (by decide) (by decide)) dX9_years_28 ?_
      refine get_X9_118 (pc := 31) C (wg hG (by decide) (by decide)) dX9_years_31 ?_
      refine V_iload_n (pc := 34) C 1 dX9_years_34 rfl rfl ?_
      refine V_iald (pc := 35) C (k) rfl (by omega) (Nat.le_of_ble_eq_true rfl) (wg hG (by decide) (by decide)) wF_27 dX9_years_35 ?_
      refine V_aload_n (pc := 36) C 0 dX9_years_36 rfl rfl ?_
      refine get_X9_64 (pc := 37) C (wg hG (by decide) (by decide)) dX9_years_37 ?_
      refine get_X9_160 (pc := 40) C (wg hG (by decide) (by decide)) dX9_years_40 ?_
      refine call_X9_176 (pc := 43) C (c_X0_ageIn (d := d - 1) hG (by omega) M (i := k) (by omega) _ _ _) (by omega) (wg hG (by decide) (show (k) < 7 from (by omega))) (Nat.le_of_ble_eq_true rfl) dX9_years_43 (fun x_43 M_43 h_43 => ?_)
      obtain ⟨e_43, rfl⟩ := h_43
      have e_43 := e_43.symm
      subst e_43
      refine V_iret (pc := 46) C hr hlk dX9_years_46 ⟨_, rfl, ?_⟩
      exact ⟨rfl, by rw [kYears, if_pos ⟨h_5, h_14⟩, nI_clamp (by omega)]⟩
    · have h_14 := bJ_0.mp h_14
      refine V_bipush (v := -2) (pc := 17) C dX9_years_17 (by decide) ?_
      refine V_iret (pc := 19) C hr hlk dX9_years_19 ⟨_, rfl, ?_⟩
      exact ⟨rfl, by rw [kYears, if_neg (fun z => h_14 z.2)]⟩
end S33
