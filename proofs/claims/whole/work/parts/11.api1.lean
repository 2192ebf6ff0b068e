section S11
variable {l : Launch} {D : va_G} {cy : Nat → ClassId} {ad : Nat → Nat → Nat} {G d : Nat}
def kBuyerM (M : wS) (nb : Nat) (kind what asks : Int32) : wS := mset (mset (mset (mset (mset (mset M 5 nb 0 kind) 5 nb 1 (what / 100)) 5 nb 2 (asks - asks / 10 * 10)) 27 0 nb (what - what / 100 * 100)) 28 0 nb (asks / 10)) 0 0 11 (nI nb + 1)
def kBuyer (M : wS) (nb : Nat) (kind what asks : Int32) : Int32 × wS :=
  if (0 ≤ kind ∧ kind ≤ 5) ∧ (0 ≤ what ∧ what ≤ 5199) ∧ (0 ≤ asks ∧ asks ≤ 999) then (if nb < 7 then (nI nb, kBuyerM M nb kind what asks) else (-4, M)) else (-2, M)
theorem c_X9_buyer (hG : 30 ≤ G) (hd : 1 ≤ d) (M : wS) {nb : Nat} (hnb : M.1 0 0 11 = nI nb) (hn7 : nb ≤ 7) (kind what asks : Int32) : Ctr l D cy ad G d yX9_buyer cX9_buyer 5 (some .int) [.ref (ad 0 0), .int kind, .int what, .int asks] M (rI fun x M' => (x, M') = kBuyer M nb kind what asks) := by
  refine Ctr.of (lv0 := [(0, _), (1, _), (2, _), (3, _)]) (by decide) (Nat.le_of_ble_eq_true rfl) rfl ?_
  intro p e s m args below meth c C hr hlk _
  have C : CX p s m args c cX9_buyer 5 "CostsAge" D cy ad G (wA ad G) (Rm d) d 0 0 := C
  refine V_iload_n (pc := 0) C 1 dX9_buyer_0 rfl rfl ?_
  refine V_iconst (v := 5) (pc := 1) C dX9_buyer_1 (by decide) ?_
  refine call_X9_102 (pc := 2) C (c_X9_isWithin (d := d - 1) M _ _) (by omega) (Nat.le_of_ble_eq_true rfl) dX9_buyer_2 (fun x_2 M_2 h_2 => ?_)
  obtain ⟨e_2, rfl⟩ := h_2
  have e_2 := e_2.symm
  subst e_2
  refine V_if_eq (tgt := 28) (pc := 5) C dX9_buyer_5 (by decide) (fun h_5 => ?_) (fun h_5 => ?_)
  · have h_5 := bJ_0.mp h_5
    refine V_bipush (v := -2) (pc := 28) C dX9_buyer_28 (by decide) ?_
    refine V_iret (pc := 30) C hr hlk dX9_buyer_30 ⟨_, rfl, ?_⟩
    rw [kBuyer, if_neg]
    rintro ⟨a1, a2, a3⟩
    first | exact h_5 a1 | exact h_15 a2 | exact h_25 a3
  · have h_5 := bJ_1.mp h_5
    refine V_iload_n (pc := 8) C 2 dX9_buyer_8 rfl rfl ?_
    refine V_sipush (v := 5199) (pc := 9) C dX9_buyer_9 (by decide) ?_
    refine call_X9_102 (pc := 12) C (c_X9_isWithin (d := d - 1) M _ _) (by omega) (Nat.le_of_ble_eq_true rfl) dX9_buyer_12 (fun x_12 M_12 h_12 => ?_)
    obtain ⟨e_12, rfl⟩ := h_12
    have e_12 := e_12.symm
    subst e_12
    refine V_if_eq (tgt := 28) (pc := 15) C dX9_buyer_15 (by decide) (fun h_15 => ?_) (fun h_15 => ?_)
    · have h_15 := bJ_0.mp h_15
      refine V_bipush (v := -2) (pc := 28) C dX9_buyer_28 (by decide) ?_
      refine V_iret (pc := 30) C hr hlk dX9_buyer_30 ⟨_, rfl, ?_⟩
      rw [kBuyer, if_neg]
      rintro ⟨a1, a2, a3⟩
      first | exact h_5 a1 | exact h_15 a2 | exact h_25 a3
    · have h_15 := bJ_1.mp h_15
      refine V_iload_n (pc := 18) C 3 dX9_buyer_18 rfl rfl ?_
      refine V_sipush (v := 999) (pc := 19) C dX9_buyer_19 (by decide) ?_
      refine call_X9_102 (pc := 22) C (c_X9_isWithin (d := d - 1) M _ _) (by omega) (Nat.le_of_ble_eq_true rfl) dX9_buyer_22 (fun x_22 M_22 h_22 => ?_)
      obtain ⟨e_22, rfl⟩ := h_22
      have e_22 := e_22.symm
      subst e_22
      refine V_if_ne (tgt := 31) (pc := 25) C dX9_buyer_25 (by decide) (fun h_25 => ?_) (fun h_25 => ?_)
      · have h_25 := bJ_1.mp h_25
        refine V_aload_n (pc := 31) C 0 dX9_buyer_31 rfl rfl ?_
        refine get_X9_106 (pc := 32) C (wg hG (by decide) (by decide)) dX9_buyer_32 ?_
        refine V_bipush (v := 7) (pc := 35) C dX9_buyer_35 (by decide) ?_
        refine V_icmp_lt (tgt := 43) (pc := 37) C dX9_buyer_37 (by decide) (fun h_37 => ?_) (fun h_37 => ?_)
        · have hlt : nb < 7 := by rw [hnb] at h_37; (simp only [i32_eq, Int32.le_iff_toInt_le, Int32.lt_iff_toInt_lt, Int32.not_le, Int32.not_lt, Int32.toInt_add, Int32.toInt_sub, Int32.toInt_mul, Int32.toInt_neg, Int32.toInt_div, tdv2, tdv4, tdv10, tdv52, tdv100, nI_T, apply_ite Int32.toInt, Int.bmod, Int32.reduceToInt] at *; omega)
          refine V_aload_n (pc := 43) C 0 dX9_buyer_43 rfl rfl ?_
          refine get_X9_11 (pc := 44) C (wg hG (by decide) (by decide)) dX9_buyer_44 ?_
          refine V_aload_n (pc := 47) C 0 dX9_buyer_47 rfl rfl ?_
          refine get_X9_106 (pc := 48) C (wg hG (by decide) (by decide)) dX9_buyer_48 ?_
          refine V_aald (pc := 51) C (nb) hnb hlt (Nat.le_of_ble_eq_true rfl) (wg hG (by decide) (by decide)) wF_1 rfl dX9_buyer_51 ?_
          refine Vs_astore (lv' := [(0, _), (1, _), (2, _), (3, _), (4, _)]) (pc := 52) C dX9_buyer_52 (by decide) rfl rfl ?_
          refine V_aload (pc := 54) C 4 dX9_buyer_54 rfl ?_
          refine V_iload_n (pc := 56) C 1 dX9_buyer_56 rfl rfl ?_
          refine put_X9_109 (pc := 57) C (wg hG (by decide) (show (nb) < 7 from hlt)) dX9_buyer_57 ?_
          refine V_aload (pc := 60) C 4 dX9_buyer_60 rfl ?_
          refine V_iload_n (pc := 62) C 2 dX9_buyer_62 rfl rfl ?_
          refine V_bipush (v := 100) (pc := 63) C dX9_buyer_63 (by decide) ?_
          refine V_idiv (pc := 65) C dX9_buyer_65 (by decide) ?_
          refine put_X9_112 (pc := 66) C (wg hG (by decide) (show (nb) < 7 from hlt)) dX9_buyer_66 ?_
          refine V_aload (pc := 69) C 4 dX9_buyer_69 rfl ?_
          refine V_iload_n (pc := 71) C 3 dX9_buyer_71 rfl rfl ?_
          refine V_bipush (v := 10) (pc := 72) C dX9_buyer_72 (by decide) ?_
          refine V_irem (pc := 74) C dX9_buyer_74 (by decide) ?_
          refine put_X9_115 (pc := 75) C (wg hG (by decide) (show (nb) < 7 from hlt)) dX9_buyer_75 ?_
          refine V_aload_n (pc := 78) C 0 dX9_buyer_78 rfl rfl ?_
          refine get_X9_64 (pc := 79) C (wg hG (by decide) (by decide)) dX9_buyer_79 ?_
          refine get_X9_118 (pc := 82) C (wg hG (by decide) (by decide)) dX9_buyer_82 ?_
          refine V_aload_n (pc := 85) C 0 dX9_buyer_85 rfl rfl ?_
          refine get_X9_106 (pc := 86) C (wg hG (by decide) (by decide)) dX9_buyer_86 ?_
          refine V_iload_n (pc := 89) C 2 dX9_buyer_89 rfl rfl ?_
          refine V_bipush (v := 100) (pc := 90) C dX9_buyer_90 (by decide) ?_
          refine V_irem (pc := 92) C dX9_buyer_92 (by decide) ?_
          refine V_iast (pc := 93) C (nb) (by simp [mset_at, hnb]) hlt (Nat.le_of_ble_eq_true rfl) (wg hG (by decide) (by decide)) (fun _ => wF_27) dX9_buyer_93 ?_
          refine V_aload_n (pc := 94) C 0 dX9_buyer_94 rfl rfl ?_
          refine get_X9_64 (pc := 95) C (wg hG (by decide) (by decide)) dX9_buyer_95 ?_
          refine get_X9_122 (pc := 98) C (wg hG (by decide) (by decide)) dX9_buyer_98 ?_
          refine V_aload_n (pc := 101) C 0 dX9_buyer_101 rfl rfl ?_
          refine get_X9_106 (pc := 102) C (wg hG (by decide) (by decide)) dX9_buyer_102 ?_
          refine V_iload_n (pc := 105) C 3 dX9_buyer_105 rfl rfl ?_
          refine V_bipush (v := 10) (pc := 106) C dX9_buyer_106 (by decide) ?_
          refine V_idiv (pc := 108) C dX9_buyer_108 (by decide) ?_
          refine V_iast (pc := 109) C (nb) (by simp [mset_at, hnb]) hlt (Nat.le_of_ble_eq_true rfl) (wg hG (by decide) (by decide)) (fun _ => wF_28) dX9_buyer_109 ?_
          refine V_aload_n (pc := 110) C 0 dX9_buyer_110 rfl rfl ?_
          refine V_dup (pc := 111) C dX9_buyer_111 rfl ?_
          refine get_X9_106 (pc := 112) C (wg hG (by decide) (by decide)) dX9_buyer_112 ?_
          refine V_iconst (v := 1) (pc := 115) C dX9_buyer_115 (by decide) ?_
          refine V_iadd (pc := 116) C dX9_buyer_116 ?_
          refine put_X9_106 (pc := 117) C (wg hG (by decide) (by decide)) dX9_buyer_117 ?_
          refine V_aload_n (pc := 120) C 0 dX9_buyer_120 rfl rfl ?_
          refine get_X9_106 (pc := 121) C (wg hG (by decide) (by decide)) dX9_buyer_121 ?_
          refine V_iconst (v := 1) (pc := 124) C dX9_buyer_124 (by decide) ?_
          refine V_isub (pc := 125) C dX9_buyer_125 ?_
          refine V_iret (pc := 126) C hr hlk dX9_buyer_126 ⟨_, rfl, ?_⟩
          rw [kBuyer, if_pos ⟨h_5, h_15, h_25⟩, if_pos hlt]
          refine Prod.ext ?_ ?_
          · simp [mset_at, hnb]
          · simp [kBuyerM, mset_at, hnb]
        · refine V_bipush (v := -4) (pc := 40) C dX9_buyer_40 (by decide) ?_
          refine V_iret (pc := 42) C hr hlk dX9_buyer_42 ⟨_, rfl, ?_⟩
          rw [kBuyer, if_pos ⟨h_5, h_15, h_25⟩, if_neg (by rw [hnb] at h_37; (simp only [i32_eq, Int32.le_iff_toInt_le, Int32.lt_iff_toInt_lt, Int32.not_le, Int32.not_lt, Int32.toInt_add, Int32.toInt_sub, Int32.toInt_mul, Int32.toInt_neg, Int32.toInt_div, tdv2, tdv4, tdv10, tdv52, tdv100, nI_T, apply_ite Int32.toInt, Int.bmod, Int32.reduceToInt] at *; omega))]
      · have h_25 := bJ_0.mp h_25
        refine V_bipush (v := -2) (pc := 28) C dX9_buyer_28 (by decide) ?_
        refine V_iret (pc := 30) C hr hlk dX9_buyer_30 ⟨_, rfl, ?_⟩
        rw [kBuyer, if_neg]
        rintro ⟨a1, a2, a3⟩
        first | exact h_5 a1 | exact h_15 a2 | exact h_25 a3
def kThingM (M : wS) (nt : Nat) (size value : Int32) : wS := mset (mset (mset (mset M 6 nt 0 size) 6 nt 1 value) 29 0 nt (-1)) 0 0 12 (nI nt + 1)
def kThing (M : wS) (nt : Nat) (size value : Int32) : Int32 × wS :=
  if (0 ≤ size ∧ size ≤ 9) ∧ (0 ≤ value ∧ value ≤ 999) then (if nt < 7 then (nI nt, kThingM M nt size value) else (-4, M)) else (-2, M)
theorem c_X9_thing (hG : 30 ≤ G) (hd : 1 ≤ d) (M : wS) {nt : Nat} (hnt : M.1 0 0 12 = nI nt) (hn7 : nt ≤ 7) (size value : Int32) : Ctr l D cy ad G d yX9_thing cX9_thing 3 (some .int) [.ref (ad 0 0), .int size, .int value] M (rI fun x M' => (x, M') = kThing M nt size value) := by
  refine Ctr.of (lv0 := [(0, _), (1, _), (2, _)]) (by decide) (Nat.le_of_ble_eq_true rfl) rfl ?_
  intro p e s m args below meth c C hr hlk _
  have C : CX p s m args c cX9_thing 3 "CostsAge" D cy ad G (wA ad G) (Rm d) d 0 0 := C
  refine V_iload_n (pc := 0) C 1 dX9_thing_0 rfl rfl ?_
  refine V_bipush (v := 9) (pc := 1) C dX9_thing_1 (by decide) ?_
  refine call_X9_102 (pc := 3) C (c_X9_isWithin (d := d - 1) M _ _) (by omega) (Nat.le_of_ble_eq_true rfl) dX9_thing_3 (fun x_3 M_3 h_3 => ?_)
  obtain ⟨e_3, rfl⟩ := h_3
  have e_3 := e_3.symm
  subst e_3
  refine V_if_eq (tgt := 19) (pc := 6) C dX9_thing_6 (by decide) (fun h_6 => ?_) (fun h_6 => ?_)
  · have h_6 := bJ_0.mp h_6
    refine V_bipush (v := -2) (pc := 19) C dX9_thing_19 (by decide) ?_
    refine V_iret (pc := 21) C hr hlk dX9_thing_21 ⟨_, rfl, ?_⟩
    rw [kThing, if_neg]
    rintro ⟨a1, a2⟩
    first | exact h_6 a1 | exact h_16 a2
  · have h_6 := bJ_1.mp h_6
    refine V_iload_n (pc := 9) C 2 dX9_thing_9 rfl rfl ?_
    refine V_sipush (v := 999) (pc := 10) C dX9_thing_10 (by decide) ?_
    refine call_X9_102 (pc := 13) C (c_X9_isWithin (d := d - 1) M _ _) (by omega) (Nat.le_of_ble_eq_true rfl) dX9_thing_13 (fun x_13 M_13 h_13 => ?_)
    obtain ⟨e_13, rfl⟩ := h_13
    have e_13 := e_13.symm
    subst e_13
    refine V_if_ne (tgt := 22) (pc := 16) C dX9_thing_16 (by decide) (fun h_16 => ?_) (fun h_16 => ?_)
    · have h_16 := bJ_1.mp h_16
      refine V_aload_n (pc := 22) C 0 dX9_thing_22 rfl rfl ?_
      refine get_X9_124 (pc := 23) C (wg hG (by decide) (by decide)) dX9_thing_23 ?_
      refine V_bipush (v := 7) (pc := 26) C dX9_thing_26 (by decide) ?_
      refine V_icmp_lt (tgt := 34) (pc := 28) C dX9_thing_28 (by decide) (fun h_28 => ?_) (fun h_28 => ?_)
      · have hlt : nt < 7 := by rw [hnt] at h_28; (simp only [i32_eq, Int32.le_iff_toInt_le, Int32.lt_iff_toInt_lt, Int32.not_le, Int32.not_lt, Int32.toInt_add, Int32.toInt_sub, Int32.toInt_mul, Int32.toInt_neg, Int32.toInt_div, tdv2, tdv4, tdv10, tdv52, tdv100, nI_T, apply_ite Int32.toInt, Int.bmod, Int32.reduceToInt] at *; omega)
        refine V_aload_n (pc := 34) C 0 dX9_thing_34 rfl rfl ?_
        refine get_X9_17 (pc := 35) C (wg hG (by decide) (by decide)) dX9_thing_35 ?_
        refine V_aload_n (pc := 38) C 0 dX9_thing_38 rfl rfl ?_
        refine get_X9_124 (pc := 39) C (wg hG (by decide) (by decide)) dX9_thing_39 ?_
        refine V_aald (pc := 42) C (nt) hnt hlt (Nat.le_of_ble_eq_true rfl) (wg hG (by decide) (by decide)) wF_2 rfl dX9_thing_42 ?_
        refine V_iload_n (pc := 43) C 1 dX9_thing_43 rfl rfl ?_
        refine put_X9_127 (pc := 44) C (wg hG (by decide) (show (nt) < 7 from hlt)) dX9_thing_44 ?_
        refine V_aload_n (pc := 47) C 0 dX9_thing_47 rfl rfl ?_
        refine get_X9_17 (pc := 48) C (wg hG (by decide) (by decide)) dX9_thing_48 ?_
        refine V_aload_n (pc := 51) C 0 dX9_thing_51 rfl rfl ?_
        refine get_X9_124 (pc := 52) C (wg hG (by decide) (by decide)) dX9_thing_52 ?_
        refine V_aald (pc := 55) C (nt) (by simp [mset_at, hnt]) hlt (Nat.le_of_ble_eq_true rfl) (wg hG (by decide) (by decide)) wF_2 rfl dX9_thing_55 ?_
        refine V_iload_n (pc := 56) C 2 dX9_thing_56 rfl rfl ?_
        refine put_X9_130 (pc := 57) C (wg hG (by decide) (show (nt) < 7 from hlt)) dX9_thing_57 ?_
        refine V_aload_n (pc := 60) C 0 dX9_thing_60 rfl rfl ?_
        refine get_X9_64 (pc := 61) C (wg hG (by decide) (by decide)) dX9_thing_61 ?_
        refine get_X9_133 (pc := 64) C (wg hG (by decide) (by decide)) dX9_thing_64 ?_
        refine V_aload_n (pc := 67) C 0 dX9_thing_67 rfl rfl ?_
        refine get_X9_124 (pc := 68) C (wg hG (by decide) (by decide)) dX9_thing_68 ?_
        refine V_iconst (v := -1) (pc := 71) C dX9_thing_71 (by decide) ?_
        refine V_iast (pc := 72) C (nt) (by simp [mset_at, hnt]) hlt (Nat.le_of_ble_eq_true rfl) (wg hG (by decide) (by decide)) (fun _ => wF_29) dX9_thing_72 ?_
        refine V_aload_n (pc := 73) C 0 dX9_thing_73 rfl rfl ?_
        refine V_dup (pc := 74) C dX9_thing_74 rfl ?_
        refine get_X9_124 (pc := 75) C (wg hG (by decide) (by decide)) dX9_thing_75 ?_
        refine V_iconst (v := 1) (pc := 78) C dX9_thing_78 (by decide) ?_
        refine V_iadd (pc := 79) C dX9_thing_79 ?_
        refine put_X9_124 (pc := 80) C (wg hG (by decide) (by decide)) dX9_thing_80 ?_
        refine V_aload_n (pc := 83) C 0 dX9_thing_83 rfl rfl ?_
        refine get_X9_124 (pc := 84) C (wg hG (by decide) (by decide)) dX9_thing_84 ?_
        refine V_iconst (v := 1) (pc := 87) C dX9_thing_87 (by decide) ?_
        refine V_isub (pc := 88) C dX9_thing_88 ?_
        refine V_iret (pc := 89) C hr hlk dX9_thing_89 ⟨_, rfl, ?_⟩
        rw [kThing, if_pos ⟨h_6, h_16⟩, if_pos hlt]
        refine Prod.ext ?_ ?_
        · simp [mset_at, hnt]
        · simp [kThingM, mset_at, hnt]
      · refine V_bipush (v := -4) (pc := 31) C dX9_thing_31 (by decide) ?_
        refine V_iret (pc := 33) C hr hlk dX9_thing_33 ⟨_, rfl, ?_⟩
        rw [kThing, if_pos ⟨h_6, h_16⟩, if_neg (by rw [hnt] at h_28; (simp only [i32_eq, Int32.le_iff_toInt_le, Int32.lt_iff_toInt_lt, Int32.not_le, Int32.not_lt, Int32.toInt_add, Int32.toInt_sub, Int32.toInt_mul, Int32.toInt_neg, Int32.toInt_div, tdv2, tdv4, tdv10, tdv52, tdv100, nI_T, apply_ite Int32.toInt, Int.bmod, Int32.reduceToInt] at *; omega))]
    · have h_16 := bJ_0.mp h_16
      refine V_bipush (v := -2) (pc := 19) C dX9_thing_19 (by decide) ?_
      refine V_iret (pc := 21) C hr hlk dX9_thing_21 ⟨_, rfl, ?_⟩
      rw [kThing, if_neg]
      rintro ⟨a1, a2⟩
      first | exact h_6 a1 | exact h_16 a2
def kSet (M : wS) (nb nt : Nat) (what of_ v : Int32) : Int32 × wS :=
  if what = 0 then (if (0 ≤ of_ ∧ of_ < nI nb) ∧ (0 ≤ v ∧ v ≤ 99) then (M.1 27 0 of_.toNatClampNeg, mset M 27 0 of_.toNatClampNeg v) else (-2, M))
  else if what = 1 then (if (0 ≤ of_ ∧ of_ < nI nb) ∧ (0 ≤ v ∧ v ≤ 99) then (M.1 28 0 of_.toNatClampNeg, mset M 28 0 of_.toNatClampNeg v) else (-2, M))
  else if what = 2 then (if (0 ≤ of_ ∧ of_ < nI nb) ∧ (0 ≤ v ∧ v ≤ 51) then (M.1 5 of_.toNatClampNeg 1, mset M 5 of_.toNatClampNeg 1 v) else (-2, M))
  else if what = 3 then (if (0 ≤ of_ ∧ of_ < nI nt) ∧ (v = -1 ∨ 0 ≤ v ∧ v < nI nb) then (M.1 29 0 of_.toNatClampNeg, mset M 29 0 of_.toNatClampNeg v) else (-2, M))
  else if what = 4 then (if (0 ≤ v ∧ v ≤ 63) then (M.1 26 0 7, mset M 26 0 7 v) else (-2, M))
  else (-2, M)
theorem c_X9_set (hG : 30 ≤ G) (hd : 1 ≤ d) (M : wS) {nb nt : Nat} (hnb : M.1 0 0 11 = nI nb) (hn7 : nb ≤ 7) (hnt : M.1 0 0 12 = nI nt) (ht7 : nt ≤ 7) (what of_ v : Int32) : Ctr l D cy ad G d yX9_set cX9_set 4 (some .int) [.ref (ad 0 0), .int what, .int of_, .int v] M (rI fun x M' => (x, M') = kSet M nb nt what of_ v) := by
  have key0 : ∀ w : Int32, w = 0 → kSet M nb nt w of_ v = (if (0 ≤ of_ ∧ of_ < nI nb) ∧ (0 ≤ v ∧ v ≤ 99) then (M.1 27 0 of_.toNatClampNeg, mset M 27 0 of_.toNatClampNeg v) else (-2, M)) := fun w h => by rw [h]; rfl
  have key1 : ∀ w : Int32, w = 1 → kSet M nb nt w of_ v = (if (0 ≤ of_ ∧ of_ < nI nb) ∧ (0 ≤ v ∧ v ≤ 99) then (M.1 28 0 of_.toNatClampNeg, mset M 28 0 of_.toNatClampNeg v) else (-2, M)) := fun w h => by rw [h]; rfl
  have key2 : ∀ w : Int32, w = 2 → kSet M nb nt w of_ v = (if (0 ≤ of_ ∧ of_ < nI nb) ∧ (0 ≤ v ∧ v ≤ 51) then (M.1 5 of_.toNatClampNeg 1, mset M 5 of_.toNatClampNeg 1 v) else (-2, M)) := fun w h => by rw [h]; rfl
  have key3 : ∀ w : Int32, w = 3 → kSet M nb nt w of_ v = (if (0 ≤ of_ ∧ of_ < nI nt) ∧ (v = -1 ∨ 0 ≤ v ∧ v < nI nb) then (M.1 29 0 of_.toNatClampNeg, mset M 29 0 of_.toNatClampNeg v) else (-2, M)) := fun w h => by rw [h]; rfl
  have key4 : ∀ w : Int32, w = 4 → kSet M nb nt w of_ v = (if (0 ≤ v ∧ v ≤ 63) then (M.1 26 0 7, mset M 26 0 7 v) else (-2, M)) := fun w h => by rw [h]; rfl
  refine Ctr.of (lv0 := [(0, _), (1, _), (2, _), (3, _)]) (by decide) (Nat.le_of_ble_eq_true rfl) rfl ?_
  intro p e s m args below meth c C hr hlk _
  have C : CX p s m args c cX9_set 4 "CostsAge" D cy ad G (wA ad G) (Rm d) d 0 0 := C
  refine V_iload_n (pc := 0) C 1 dX9_set_0 rfl rfl ?_
  refine V_tbl (pc := 1) C dX9_set_1 rfl (fun j_1 o_1 t_1 ho_1 ht_1 h_1 _ => ?_) (fun t_1 ht_1 h_1 => ?_) (by decide +kernel) (by decide)
  · match j_1, ho_1, h_1 with
    | 0, ho_1, h_1 =>
      obtain rfl : ((35 : Int)) = o_1 := Option.some.inj ho_1
      obtain rfl : t_1 = 36 := by omega
      have hw : what = 0 := by (simp only [i32_eq, Int32.le_iff_toInt_le, Int32.lt_iff_toInt_lt, Int32.not_le, Int32.not_lt, Int32.toInt_add, Int32.toInt_sub, Int32.toInt_mul, Int32.toInt_neg, Int32.toInt_div, tdv2, tdv4, tdv10, tdv52, tdv100, nI_T, apply_ite Int32.toInt, Int.bmod, Int32.reduceToInt] at *; omega)
      rw [key0 what hw]
      refine V_aload_n (pc := 36) C 0 dX9_set_36 rfl rfl ?_
      refine V_iload_n (pc := 37) C 2 dX9_set_37 rfl rfl ?_
      refine call_X9_136 (pc := 38) C (c_X9_isBuyer (d := d - 1) hG M _) (by omega) (wg hG (by decide) (by decide)) (Nat.le_of_ble_eq_true rfl) dX9_set_38 (fun x_38 M_38 h_38 => ?_)
      obtain ⟨e_38, rfl⟩ := h_38
      have e_38 := e_38.symm
      subst e_38
      refine V_if_eq (tgt := 68) (pc := 41) C dX9_set_41 (by decide) (fun h_41 => ?_) (fun h_41 => ?_)
      · have h_41 := bJ_0.mp h_41
        rw [hnb] at h_41
        refine V_bipush (v := -2) (pc := 68) C dX9_set_68 (by decide) ?_
        refine V_iret (pc := 70) C hr hlk dX9_set_70 ⟨_, rfl, ?_⟩
        rw [if_neg (fun h => h_41 h.1)]
      · have h_41 := bJ_1.mp h_41
        rw [hnb] at h_41
        obtain ⟨k, hk, rfl⟩ := ix_of h_41.1 h_41.2 (by omega)
        refine V_iload_n (pc := 44) C 3 dX9_set_44 rfl rfl ?_
        refine V_bipush (v := 99) (pc := 45) C dX9_set_45 (by decide) ?_
        refine call_X9_102 (pc := 47) C (c_X9_isWithin (d := d - 1) M _ _) (by omega) (Nat.le_of_ble_eq_true rfl) dX9_set_47 (fun x_47 M_47 h_47 => ?_)
        obtain ⟨e_47, rfl⟩ := h_47
        have e_47 := e_47.symm
        subst e_47
        refine V_if_eq (tgt := 68) (pc := 50) C dX9_set_50 (by decide) (fun h_50 => ?_) (fun h_50 => ?_)
        · have h_50 := bJ_0.mp h_50
          refine V_bipush (v := -2) (pc := 68) C dX9_set_68 (by decide) ?_
          refine V_iret (pc := 70) C hr hlk dX9_set_70 ⟨_, rfl, ?_⟩
          rw [if_neg (fun h => h_50 h.2)]
        · have h_50 := bJ_1.mp h_50
          refine V_aload_n (pc := 53) C 0 dX9_set_53 rfl rfl ?_
          refine get_X9_64 (pc := 54) C (wg hG (by decide) (by decide)) dX9_set_54 ?_
          refine get_X9_118 (pc := 57) C (wg hG (by decide) (by decide)) dX9_set_57 ?_
          refine V_iload_n (pc := 60) C 2 dX9_set_60 rfl rfl ?_
          refine V_iload_n (pc := 61) C 3 dX9_set_61 rfl rfl ?_
          refine call_X9_139 (pc := 62) C (c_X9_exchange (d := d - 1) (k := k) M (wg hG (by decide) (by decide)) (fun _ => wF_27) (by decide) (by omega) v) (by omega) (Nat.le_of_ble_eq_true rfl) dX9_set_62 (fun x_62 M_62 h_62 => ?_)
          obtain ⟨e_62, rfl⟩ := h_62
          have e_62 := e_62.symm
          subst e_62
          refine V_goto (tgt := 70) (pc := 65) C dX9_set_65 (by decide) ?_
          refine V_iret (pc := 70) C hr hlk dX9_set_70 ⟨_, rfl, ?_⟩
          rw [if_pos ⟨h_41, h_50⟩, nI_clamp (by omega)]
    | 1, ho_1, h_1 =>
      obtain rfl : ((70 : Int)) = o_1 := Option.some.inj ho_1
      obtain rfl : t_1 = 71 := by omega
      have hw : what = 1 := by (simp only [i32_eq, Int32.le_iff_toInt_le, Int32.lt_iff_toInt_lt, Int32.not_le, Int32.not_lt, Int32.toInt_add, Int32.toInt_sub, Int32.toInt_mul, Int32.toInt_neg, Int32.toInt_div, tdv2, tdv4, tdv10, tdv52, tdv100, nI_T, apply_ite Int32.toInt, Int.bmod, Int32.reduceToInt] at *; omega)
      rw [key1 what hw]
      refine V_aload_n (pc := 71) C 0 dX9_set_71 rfl rfl ?_
      refine V_iload_n (pc := 72) C 2 dX9_set_72 rfl rfl ?_
      refine call_X9_136 (pc := 73) C (c_X9_isBuyer (d := d - 1) hG M _) (by omega) (wg hG (by decide) (by decide)) (Nat.le_of_ble_eq_true rfl) dX9_set_73 (fun x_73 M_73 h_73 => ?_)
      obtain ⟨e_73, rfl⟩ := h_73
      have e_73 := e_73.symm
      subst e_73
      refine V_if_eq (tgt := 103) (pc := 76) C dX9_set_76 (by decide) (fun h_76 => ?_) (fun h_76 => ?_)
      · have h_76 := bJ_0.mp h_76
        rw [hnb] at h_76
        refine V_bipush (v := -2) (pc := 103) C dX9_set_103 (by decide) ?_
        refine V_iret (pc := 105) C hr hlk dX9_set_105 ⟨_, rfl, ?_⟩
        rw [if_neg (fun h => h_76 h.1)]
      · have h_76 := bJ_1.mp h_76
        rw [hnb] at h_76
        obtain ⟨k, hk, rfl⟩ := ix_of h_76.1 h_76.2 (by omega)
        refine V_iload_n (pc := 79) C 3 dX9_set_79 rfl rfl ?_
        refine V_bipush (v := 99) (pc := 80) C dX9_set_80 (by decide) ?_
        refine call_X9_102 (pc := 82) C (c_X9_isWithin (d := d - 1) M _ _) (by omega) (Nat.le_of_ble_eq_true rfl) dX9_set_82 (fun x_82 M_82 h_82 => ?_)
        obtain ⟨e_82, rfl⟩ := h_82
        have e_82 := e_82.symm
        subst e_82
        refine V_if_eq (tgt := 103) (pc := 85) C dX9_set_85 (by decide) (fun h_85 => ?_) (fun h_85 => ?_)
        · have h_85 := bJ_0.mp h_85
          refine V_bipush (v := -2) (pc := 103) C dX9_set_103 (by decide) ?_
          refine V_iret (pc := 105) C hr hlk dX9_set_105 ⟨_, rfl, ?_⟩
          rw [if_neg (fun h => h_85 h.2)]
        · have h_85 := bJ_1.mp h_85
          refine V_aload_n (pc := 88) C 0 dX9_set_88 rfl rfl ?_
          refine get_X9_64 (pc := 89) C (wg hG (by decide) (by decide)) dX9_set_89 ?_
          refine get_X9_122 (pc := 92) C (wg hG (by decide) (by decide)) dX9_set_92 ?_
          refine V_iload_n (pc := 95) C 2 dX9_set_95 rfl rfl ?_
          refine V_iload_n (pc := 96) C 3 dX9_set_96 rfl rfl ?_
          refine call_X9_139 (pc := 97) C (c_X9_exchange (d := d - 1) (k := k) M (wg hG (by decide) (by decide)) (fun _ => wF_28) (by decide) (by omega) v) (by omega) (Nat.le_of_ble_eq_true rfl) dX9_set_97 (fun x_97 M_97 h_97 => ?_)
          obtain ⟨e_97, rfl⟩ := h_97
          have e_97 := e_97.symm
          subst e_97
          refine V_goto (tgt := 105) (pc := 100) C dX9_set_100 (by decide) ?_
          refine V_iret (pc := 105) C hr hlk dX9_set_105 ⟨_, rfl, ?_⟩
          rw [if_pos ⟨h_76, h_85⟩, nI_clamp (by omega)]
    | 2, ho_1, h_1 =>
      obtain rfl : ((105 : Int)) = o_1 := Option.some.inj ho_1
      obtain rfl : t_1 = 106 := by omega
      have hw : what = 2 := by (simp only [i32_eq, Int32.le_iff_toInt_le, Int32.lt_iff_toInt_lt, Int32.not_le, Int32.not_lt, Int32.toInt_add, Int32.toInt_sub, Int32.toInt_mul, Int32.toInt_neg, Int32.toInt_div, tdv2, tdv4, tdv10, tdv52, tdv100, nI_T, apply_ite Int32.toInt, Int.bmod, Int32.reduceToInt] at *; omega)
      rw [key2 what hw]
      refine V_aload_n (pc := 106) C 0 dX9_set_106 rfl rfl ?_
      refine V_iload_n (pc := 107) C 2 dX9_set_107 rfl rfl ?_
      refine call_X9_136 (pc := 108) C (c_X9_isBuyer (d := d - 1) hG M _) (by omega) (wg hG (by decide) (by decide)) (Nat.le_of_ble_eq_true rfl) dX9_set_108 (fun x_108 M_108 h_108 => ?_)
      obtain ⟨e_108, rfl⟩ := h_108
      have e_108 := e_108.symm
      subst e_108
      refine V_if_eq (tgt := 136) (pc := 111) C dX9_set_111 (by decide) (fun h_111 => ?_) (fun h_111 => ?_)
      · have h_111 := bJ_0.mp h_111
        rw [hnb] at h_111
        refine V_bipush (v := -2) (pc := 136) C dX9_set_136 (by decide) ?_
        refine V_iret (pc := 138) C hr hlk dX9_set_138 ⟨_, rfl, ?_⟩
        rw [if_neg (fun h => h_111 h.1)]
      · have h_111 := bJ_1.mp h_111
        rw [hnb] at h_111
        obtain ⟨k, hk, rfl⟩ := ix_of h_111.1 h_111.2 (by omega)
        refine V_iload_n (pc := 114) C 3 dX9_set_114 rfl rfl ?_
        refine V_bipush (v := 51) (pc := 115) C dX9_set_115 (by decide) ?_
        refine call_X9_102 (pc := 117) C (c_X9_isWithin (d := d - 1) M _ _) (by omega) (Nat.le_of_ble_eq_true rfl) dX9_set_117 (fun x_117 M_117 h_117 => ?_)
        obtain ⟨e_117, rfl⟩ := h_117
        have e_117 := e_117.symm
        subst e_117
        refine V_if_eq (tgt := 136) (pc := 120) C dX9_set_120 (by decide) (fun h_120 => ?_) (fun h_120 => ?_)
        · have h_120 := bJ_0.mp h_120
          refine V_bipush (v := -2) (pc := 136) C dX9_set_136 (by decide) ?_
          refine V_iret (pc := 138) C hr hlk dX9_set_138 ⟨_, rfl, ?_⟩
          rw [if_neg (fun h => h_120 h.2)]
        · have h_120 := bJ_1.mp h_120
          refine V_aload_n (pc := 123) C 0 dX9_set_123 rfl rfl ?_
          refine get_X9_11 (pc := 124) C (wg hG (by decide) (by decide)) dX9_set_124 ?_
          refine V_iload_n (pc := 127) C 2 dX9_set_127 rfl rfl ?_
          refine V_aald (pc := 128) C (k) rfl (by omega) (Nat.le_of_ble_eq_true rfl) (wg hG (by decide) (by decide)) wF_1 rfl dX9_set_128 ?_
          refine V_iload_n (pc := 129) C 3 dX9_set_129 rfl rfl ?_
          refine call_X9_143 (pc := 130) C (c_X0_moveBirthday (d := d - 1) (i := k) hG M (by omega) v) (by omega) (wg hG (by decide) (show (k) < 7 from (by omega))) (Nat.le_of_ble_eq_true rfl) dX9_set_130 (fun x_130 M_130 h_130 => ?_)
          obtain ⟨e_130, rfl⟩ := h_130
          have e_130 := e_130.symm
          subst e_130
          refine V_goto (tgt := 138) (pc := 133) C dX9_set_133 (by decide) ?_
          refine V_iret (pc := 138) C hr hlk dX9_set_138 ⟨_, rfl, ?_⟩
          rw [if_pos ⟨h_111, h_120⟩, nI_clamp (by omega)]
    | 3, ho_1, h_1 =>
      obtain rfl : ((138 : Int)) = o_1 := Option.some.inj ho_1
      obtain rfl : t_1 = 139 := by omega
      have hw : what = 3 := by (simp only [i32_eq, Int32.le_iff_toInt_le, Int32.lt_iff_toInt_lt, Int32.not_le, Int32.not_lt, Int32.toInt_add, Int32.toInt_sub, Int32.toInt_mul, Int32.toInt_neg, Int32.toInt_div, tdv2, tdv4, tdv10, tdv52, tdv100, nI_T, apply_ite Int32.toInt, Int.bmod, Int32.reduceToInt] at *; omega)
      rw [key3 what hw]
      refine V_aload_n (pc := 139) C 0 dX9_set_139 rfl rfl ?_
      refine V_iload_n (pc := 140) C 2 dX9_set_140 rfl rfl ?_
      refine call_X9_147 (pc := 141) C (c_X9_isWare (d := d - 1) hG M _) (by omega) (wg hG (by decide) (by decide)) (Nat.le_of_ble_eq_true rfl) dX9_set_141 (fun x_141 M_141 h_141 => ?_)
      obtain ⟨e_141, rfl⟩ := h_141
      have e_141 := e_141.symm
      subst e_141
      refine V_if_eq (tgt := 175) (pc := 144) C dX9_set_144 (by decide) (fun h_144 => ?_) (fun h_144 => ?_)
      · have h_144 := bJ_0.mp h_144
        rw [hnt] at h_144
        refine V_bipush (v := -2) (pc := 175) C dX9_set_175 (by decide) ?_
        refine V_iret (pc := 177) C hr hlk dX9_set_177 ⟨_, rfl, ?_⟩
        rw [if_neg (fun h => h_144 h.1)]
      · have h_144 := bJ_1.mp h_144
        rw [hnt] at h_144
        obtain ⟨k, hk, rfl⟩ := ix_of h_144.1 h_144.2 (by omega)
        refine V_iload_n (pc := 147) C 3 dX9_set_147 rfl rfl ?_
        refine V_iconst (v := -1) (pc := 148) C dX9_set_148 (by decide) ?_
        refine V_icmp_eq (tgt := 160) (pc := 149) C dX9_set_149 (by decide) (fun h_149 => ?_) (fun h_149 => ?_)
        · refine V_aload_n (pc := 160) C 0 dX9_set_160 rfl rfl ?_
          refine get_X9_64 (pc := 161) C (wg hG (by decide) (by decide)) dX9_set_161 ?_
          refine get_X9_133 (pc := 164) C (wg hG (by decide) (by decide)) dX9_set_164 ?_
          refine V_iload_n (pc := 167) C 2 dX9_set_167 rfl rfl ?_
          refine V_iload_n (pc := 168) C 3 dX9_set_168 rfl rfl ?_
          refine call_X9_139 (pc := 169) C (c_X9_exchange (d := d - 1) (k := k) M (wg hG (by decide) (by decide)) (fun _ => wF_29) (by decide) (by omega) v) (by omega) (Nat.le_of_ble_eq_true rfl) dX9_set_169 (fun x_169 M_169 h_169 => ?_)
          obtain ⟨e_169, rfl⟩ := h_169
          have e_169 := e_169.symm
          subst e_169
          refine V_goto (tgt := 177) (pc := 172) C dX9_set_172 (by decide) ?_
          refine V_iret (pc := 177) C hr hlk dX9_set_177 ⟨_, rfl, ?_⟩
          rw [if_pos ⟨h_144, Or.inl h_149⟩, nI_clamp (by omega)]
        · refine V_aload_n (pc := 152) C 0 dX9_set_152 rfl rfl ?_
          refine V_iload_n (pc := 153) C 3 dX9_set_153 rfl rfl ?_
          refine call_X9_136 (pc := 154) C (c_X9_isBuyer (d := d - 1) hG M _) (by omega) (wg hG (by decide) (by decide)) (Nat.le_of_ble_eq_true rfl) dX9_set_154 (fun x_154 M_154 h_154 => ?_)
          obtain ⟨e_154, rfl⟩ := h_154
          have e_154 := e_154.symm
          subst e_154
          refine V_if_eq (tgt := 175) (pc := 157) C dX9_set_157 (by decide) (fun h_157 => ?_) (fun h_157 => ?_)
          · have h_157 := bJ_0.mp h_157
            rw [hnb] at h_157
            refine V_bipush (v := -2) (pc := 175) C dX9_set_175 (by decide) ?_
            refine V_iret (pc := 177) C hr hlk dX9_set_177 ⟨_, rfl, ?_⟩
            rw [if_neg (fun h => h.2.elim h_149 h_157)]
          · have h_157 := bJ_1.mp h_157
            rw [hnb] at h_157
            refine V_aload_n (pc := 160) C 0 dX9_set_160 rfl rfl ?_
            refine get_X9_64 (pc := 161) C (wg hG (by decide) (by decide)) dX9_set_161 ?_
            refine get_X9_133 (pc := 164) C (wg hG (by decide) (by decide)) dX9_set_164 ?_
            refine V_iload_n (pc := 167) C 2 dX9_set_167 rfl rfl ?_
            refine V_iload_n (pc := 168) C 3 dX9_set_168 rfl rfl ?_
            refine call_X9_139 (pc := 169) C (c_X9_exchange (d := d - 1) (k := k) M (wg hG (by decide) (by decide)) (fun _ => wF_29) (by decide) (by omega) v) (by omega) (Nat.le_of_ble_eq_true rfl) dX9_set_169 (fun x_169 M_169 h_169 => ?_)
            obtain ⟨e_169, rfl⟩ := h_169
            have e_169 := e_169.symm
            subst e_169
            refine V_goto (tgt := 177) (pc := 172) C dX9_set_172 (by decide) ?_
            refine V_iret (pc := 177) C hr hlk dX9_set_177 ⟨_, rfl, ?_⟩
            rw [if_pos ⟨h_144, Or.inr h_157⟩, nI_clamp (by omega)]
    | 4, ho_1, h_1 =>
      obtain rfl : ((177 : Int)) = o_1 := Option.some.inj ho_1
      obtain rfl : t_1 = 178 := by omega
      have hw : what = 4 := by (simp only [i32_eq, Int32.le_iff_toInt_le, Int32.lt_iff_toInt_lt, Int32.not_le, Int32.not_lt, Int32.toInt_add, Int32.toInt_sub, Int32.toInt_mul, Int32.toInt_neg, Int32.toInt_div, tdv2, tdv4, tdv10, tdv52, tdv100, nI_T, apply_ite Int32.toInt, Int.bmod, Int32.reduceToInt] at *; omega)
      rw [key4 what hw]
      refine V_iload_n (pc := 178) C 3 dX9_set_178 rfl rfl ?_
      refine V_bipush (v := 63) (pc := 179) C dX9_set_179 (by decide) ?_
      refine call_X9_102 (pc := 181) C (c_X9_isWithin (d := d - 1) M _ _) (by omega) (Nat.le_of_ble_eq_true rfl) dX9_set_181 (fun x_181 M_181 h_181 => ?_)
      obtain ⟨e_181, rfl⟩ := h_181
      have e_181 := e_181.symm
      subst e_181
      refine V_if_eq (tgt := 195) (pc := 184) C dX9_set_184 (by decide) (fun h_184 => ?_) (fun h_184 => ?_)
      · have h_184 := bJ_0.mp h_184
        refine V_bipush (v := -2) (pc := 195) C dX9_set_195 (by decide) ?_
        refine V_iret (pc := 197) C hr hlk dX9_set_197 ⟨_, rfl, ?_⟩
        rw [if_neg h_184]
      · have h_184 := bJ_1.mp h_184
        refine V_aload_n (pc := 187) C 0 dX9_set_187 rfl rfl ?_
        refine V_iload_n (pc := 188) C 3 dX9_set_188 rfl rfl ?_
        refine call_X9_150 (pc := 189) C (c_X9_changeCarry (d := d - 1) hG M _) (by omega) (wg hG (by decide) (by decide)) (Nat.le_of_ble_eq_true rfl) dX9_set_189 (fun x_189 M_189 h_189 => ?_)
        obtain ⟨e_189, rfl⟩ := h_189
        have e_189 := e_189.symm
        subst e_189
        refine V_goto (tgt := 197) (pc := 192) C dX9_set_192 (by decide) ?_
        refine V_iret (pc := 197) C hr hlk dX9_set_197 ⟨_, rfl, ?_⟩
        rw [if_pos h_184]
    | _ + 5, ho_1, h_1 => exact absurd ho_1 (by simp)
  · obtain rfl : t_1 = 198 := by omega
    have z : ∀ q : Int32, 0 ≤ q.toInt ∧ q.toInt ≤ 4 → ¬ what = q := fun q hq e => by
      rw [e] at h_1
      omega
    refine V_bipush (v := -2) (pc := 198) C dX9_set_198 (by decide) ?_
    refine V_iret (pc := 200) C hr hlk dX9_set_200 ⟨_, rfl, ?_⟩
    rw [kSet, if_neg (z 0 (by decide)), if_neg (z 1 (by decide)), if_neg (z 2 (by decide)), if_neg (z 3 (by decide)), if_neg (z 4 (by decide))]
end S11
