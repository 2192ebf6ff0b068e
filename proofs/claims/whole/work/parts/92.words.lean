/-! words of the constructors, by their places -/
theorem qoi : Cond.instanceMethod Lib.objectInit ∈ lw_good := tg (tb 25 (by decide +kernel)) rfl
theorem qoc : Cond.code Lib.objectInit ⟨#[0xb1]⟩ 1 none ∈ lw_good := tg (tb 26 (by decide +kernel)) rfl
theorem qin_9 : Cond.instantiable "CostsAge" 14 ∈ lw_good := tg (tb 20 (by decide +kernel)) rfl
theorem qao_Buyer : Cond.arrayOver (.object "CostsAge$Buyer") ∈ lw_tbl := tb 28 (by decide +kernel)
theorem qao_Ware : Cond.arrayOver (.object "CostsAge$Ware") ∈ lw_tbl := tb 30 (by decide +kernel)
theorem qao_Text : Cond.arrayOver (.object "CostsAge$Text") ∈ lw_tbl := tb 32 (by decide +kernel)
theorem qao_Sheet : Cond.arrayOver (.object "CostsAge$Sheet") ∈ lw_tbl := tb 34 (by decide +kernel)
theorem qin_3 : Cond.instantiable "CostsAge$Reader" 8 ∈ lw_good := tg (tb 36 (by decide +kernel)) rfl
theorem qar_int : Cond.arrayClass .int ∈ lw_good := tg (tb 67 (by decide +kernel)) rfl
theorem qin_4 : Cond.instantiable "CostsAge$Scene" 3 ∈ lw_good := tg (tb 69 (by decide +kernel)) rfl
theorem qin_2 : Cond.instantiable "CostsAge$Plan" 5 ∈ lw_good := tg (tb 87 (by decide +kernel)) rfl
theorem qin_1 : Cond.instantiable "CostsAge$Fees" 3 ∈ lw_good := tg (tb 113 (by decide +kernel)) rfl
theorem qin_6 : Cond.instantiable "CostsAge$Standing" 11 ∈ lw_good := tg (tb 132 (by decide +kernel)) rfl
theorem qin_0 : Cond.instantiable "CostsAge$Buyer" 3 ∈ lw_good := tg (tb 180 (by decide +kernel)) rfl
theorem qin_8 : Cond.instantiable "CostsAge$Ware" 2 ∈ lw_good := tg (tb 198 (by decide +kernel)) rfl
theorem qin_7 : Cond.instantiable "CostsAge$Text" 4 ∈ lw_good := tg (tb 210 (by decide +kernel)) rfl
theorem qin_5 : Cond.instantiable "CostsAge$Sheet" 3 ∈ lw_good := tg (tb 233 (by decide +kernel)) rfl
theorem qin_10 : Cond.instantiable "CostsAgeModel" 61 ∈ lw_good := tg (tb 764 (by decide +kernel)) rfl
theorem qar_boolean : Cond.arrayClass .boolean ∈ lw_good := tg (tb 956 (by decide +kernel)) rfl
theorem qcl_L_7 : Cond.classLink "CostsAgeLaw" 7 "CostsAge" ∈ lw_good := tg (tb 19 (by decide +kernel)) rfl
theorem qnl_L_9 : Cond.methodLink "CostsAgeLaw" 9 yX9_init ∈ lw_good := tg (tb 21 (by decide +kernel)) rfl
theorem qob_X9_3 : Cond.methodLink "CostsAge" 3 Lib.objectInit ∈ lw_good := tg (tb 24 (by decide +kernel)) rfl
theorem qcl_X9_9 : Cond.classLink "CostsAge" 9 "CostsAge$Buyer" ∈ lw_good := tg (tb 27 (by decide +kernel)) rfl
theorem qcl_X9_15 : Cond.classLink "CostsAge" 15 "CostsAge$Ware" ∈ lw_good := tg (tb 29 (by decide +kernel)) rfl
theorem qcl_X9_21 : Cond.classLink "CostsAge" 21 "CostsAge$Text" ∈ lw_good := tg (tb 31 (by decide +kernel)) rfl
theorem qcl_X9_27 : Cond.classLink "CostsAge" 27 "CostsAge$Sheet" ∈ lw_good := tg (tb 33 (by decide +kernel)) rfl
theorem qcl_X9_33 : Cond.classLink "CostsAge" 33 "CostsAge$Reader" ∈ lw_good := tg (tb 35 (by decide +kernel)) rfl
theorem qnl_X9_35 : Cond.methodLinkNest "CostsAge" 35 yX3_init "CostsAge" ∈ lw_tbl := tb 37 (by decide +kernel)
theorem qob_X3_3 : Cond.methodLink "CostsAge$Reader" 3 Lib.objectInit ∈ lw_good := tg (tb 40 (by decide +kernel)) rfl
theorem qcl_X9_40 : Cond.classLink "CostsAge" 40 "CostsAge$Scene" ∈ lw_good := tg (tb 68 (by decide +kernel)) rfl
theorem qnl_X9_42 : Cond.methodLinkNest "CostsAge" 42 yX4_init "CostsAge" ∈ lw_tbl := tb 70 (by decide +kernel)
theorem qob_X4_3 : Cond.methodLink "CostsAge$Scene" 3 Lib.objectInit ∈ lw_good := tg (tb 73 (by decide +kernel)) rfl
theorem qcl_X9_47 : Cond.classLink "CostsAge" 47 "CostsAge$Plan" ∈ lw_good := tg (tb 86 (by decide +kernel)) rfl
theorem qnl_X9_49 : Cond.methodLinkNest "CostsAge" 49 yX2_init "CostsAge" ∈ lw_tbl := tb 88 (by decide +kernel)
theorem qob_X2_3 : Cond.methodLink "CostsAge$Plan" 3 Lib.objectInit ∈ lw_good := tg (tb 91 (by decide +kernel)) rfl
theorem qcl_X9_54 : Cond.classLink "CostsAge" 54 "CostsAge$Fees" ∈ lw_good := tg (tb 112 (by decide +kernel)) rfl
theorem qnl_X9_56 : Cond.methodLinkNest "CostsAge" 56 yX1_init "CostsAge" ∈ lw_tbl := tb 114 (by decide +kernel)
theorem qob_X1_3 : Cond.methodLink "CostsAge$Fees" 3 Lib.objectInit ∈ lw_good := tg (tb 117 (by decide +kernel)) rfl
theorem qcl_X9_61 : Cond.classLink "CostsAge" 61 "CostsAge$Standing" ∈ lw_good := tg (tb 131 (by decide +kernel)) rfl
theorem qnl_X9_63 : Cond.methodLinkNest "CostsAge" 63 yX6_init "CostsAge" ∈ lw_tbl := tb 133 (by decide +kernel)
theorem qob_X6_3 : Cond.methodLink "CostsAge$Standing" 3 Lib.objectInit ∈ lw_good := tg (tb 136 (by decide +kernel)) rfl
theorem qnl_X9_71 : Cond.methodLinkNest "CostsAge" 71 yX0_init "CostsAge" ∈ lw_tbl := tb 181 (by decide +kernel)
theorem qob_X0_3 : Cond.methodLink "CostsAge$Buyer" 3 Lib.objectInit ∈ lw_good := tg (tb 184 (by decide +kernel)) rfl
theorem qnl_X9_72 : Cond.methodLinkNest "CostsAge" 72 yX8_init "CostsAge" ∈ lw_tbl := tb 199 (by decide +kernel)
theorem qob_X8_1 : Cond.methodLink "CostsAge$Ware" 1 Lib.objectInit ∈ lw_good := tg (tb 202 (by decide +kernel)) rfl
theorem qnl_X9_73 : Cond.methodLinkNest "CostsAge" 73 yX7_init "CostsAge" ∈ lw_tbl := tb 211 (by decide +kernel)
theorem qob_X7_3 : Cond.methodLink "CostsAge$Text" 3 Lib.objectInit ∈ lw_good := tg (tb 214 (by decide +kernel)) rfl
theorem qnl_X9_74 : Cond.methodLinkNest "CostsAge" 74 yX5_init "CostsAge" ∈ lw_tbl := tb 234 (by decide +kernel)
theorem qob_X5_3 : Cond.methodLink "CostsAge$Sheet" 3 Lib.objectInit ∈ lw_good := tg (tb 237 (by decide +kernel)) rfl
theorem qcl_L_10 : Cond.classLink "CostsAgeLaw" 10 "CostsAgeModel" ∈ lw_good := tg (tb 763 (by decide +kernel)) rfl
theorem qnl_L_12 : Cond.methodLink "CostsAgeLaw" 12 yX10_init ∈ lw_good := tg (tb 765 (by decide +kernel)) rfl
theorem qob_X10_7 : Cond.methodLink "CostsAgeModel" 7 Lib.objectInit ∈ lw_good := tg (tb 768 (by decide +kernel)) rfl
theorem qf_X1_15 : Cond.fieldLink "CostsAge$Fees" 15 "CostsAge$Fees" "asked" "[I" ∈ lw_good := tg (tb 120 (by decide +kernel)) rfl
theorem qf_X2_24 : Cond.fieldLink "CostsAge$Plan" 24 "CostsAge$Plan" "crew" "[I" ∈ lw_good := tg (tb 99 (by decide +kernel)) rfl
theorem qf_X7_9 : Cond.fieldLink "CostsAge$Text" 9 "CostsAge$Text" "code" "[I" ∈ lw_good := tg (tb 215 (by decide +kernel)) rfl
theorem df_0 : ∀ j, j < 3 → defaultValue (tyX0 j) = vp_V [.int 0, .int 0, .int 0] j := by
  intro j hj
  match j, hj with
  | 0, _ => rfl
  | 1, _ => rfl
  | 2, _ => rfl
  | _ + 3, h => exact absurd h (by omega)
theorem df_1 : ∀ j, j < 3 → defaultValue (tyX1 j) = vp_V [.null, .null, .null] j := by
  intro j hj
  match j, hj with
  | 0, _ => rfl
  | 1, _ => rfl
  | 2, _ => rfl
  | _ + 3, h => exact absurd h (by omega)
theorem df_2 : ∀ j, j < 5 → defaultValue (tyX2 j) = vp_V [.null, .null, .null, .null, .null] j := by
  intro j hj
  match j, hj with
  | 0, _ => rfl
  | 1, _ => rfl
  | 2, _ => rfl
  | 3, _ => rfl
  | 4, _ => rfl
  | _ + 5, h => exact absurd h (by omega)
theorem df_3 : ∀ j, j < 8 → defaultValue (tyX3 j) = vp_V [.null, .int 0, .int 0, .int 0, .int 0, .int 0, .int 0, .int 0] j := by
  intro j hj
  match j, hj with
  | 0, _ => rfl
  | 1, _ => rfl
  | 2, _ => rfl
  | 3, _ => rfl
  | 4, _ => rfl
  | 5, _ => rfl
  | 6, _ => rfl
  | 7, _ => rfl
  | _ + 8, h => exact absurd h (by omega)
theorem df_4 : ∀ j, j < 3 → defaultValue (tyX4 j) = vp_V [.null, .null, .int 0] j := by
  intro j hj
  match j, hj with
  | 0, _ => rfl
  | 1, _ => rfl
  | 2, _ => rfl
  | _ + 3, h => exact absurd h (by omega)
theorem df_5 : ∀ j, j < 3 → defaultValue (tyX5 j) = vp_V [.null, .int 0, .int 0] j := by
  intro j hj
  match j, hj with
  | 0, _ => rfl
  | 1, _ => rfl
  | 2, _ => rfl
  | _ + 3, h => exact absurd h (by omega)
theorem df_6 : ∀ j, j < 11 → defaultValue (tyX6 j) = vp_V [.null, .null, .null, .int 0, .int 0, .int 0, .int 0, .int 0, .int 0, .int 0, .int 0] j := by
  intro j hj
  match j, hj with
  | 0, _ => rfl
  | 1, _ => rfl
  | 2, _ => rfl
  | 3, _ => rfl
  | 4, _ => rfl
  | 5, _ => rfl
  | 6, _ => rfl
  | 7, _ => rfl
  | 8, _ => rfl
  | 9, _ => rfl
  | 10, _ => rfl
  | _ + 11, h => exact absurd h (by omega)
theorem df_7 : ∀ j, j < 4 → defaultValue (tyX7 j) = vp_V [.null, .int 0, .int 0, .int 0] j := by
  intro j hj
  match j, hj with
  | 0, _ => rfl
  | 1, _ => rfl
  | 2, _ => rfl
  | 3, _ => rfl
  | _ + 4, h => exact absurd h (by omega)
theorem df_8 : ∀ j, j < 2 → defaultValue (tyX8 j) = vp_V [.int 0, .int 0] j := by
  intro j hj
  match j, hj with
  | 0, _ => rfl
  | 1, _ => rfl
  | _ + 2, h => exact absurd h (by omega)
theorem df_9 : ∀ j, j < 14 → defaultValue (tyX9 j) = vp_V [.null, .null, .null, .null, .null, .null, .null, .null, .null, .null, .int 0, .int 0, .int 0, .int 0] j := by
  intro j hj
  match j, hj with
  | 0, _ => rfl
  | 1, _ => rfl
  | 2, _ => rfl
  | 3, _ => rfl
  | 4, _ => rfl
  | 5, _ => rfl
  | 6, _ => rfl
  | 7, _ => rfl
  | 8, _ => rfl
  | 9, _ => rfl
  | 10, _ => rfl
  | 11, _ => rfl
  | 12, _ => rfl
  | 13, _ => rfl
  | _ + 14, h => exact absurd h (by omega)
theorem df_10 : ∀ j, j < 61 → defaultValue (tyX10 j) = vp_V [.int 0, .null, .null, .int 0, .int 0, .null, .int 0, .null, .null, .null, .null, .null, .int 0, .null, .null, .null, .int 0, .int 0, .int 0, .int 0, .int 0, .int 0, .int 0, .int 0, .int 0, .int 0, .int 0, .int 0, .int 0, .int 0, .int 0, .int 0, .int 0, .long 0, .int 0, .int 0, .int 0, .int 0, .int 0, .null, .null, .null, .null, .null, .null, .null, .null, .null, .null, .int 0, .int 0, .int 0, .int 0, .int 0, .int 0, .int 0, .int 0, .null, .null, .null, .null] j := by
  intro j hj
  match j, hj with
  | 0, _ => rfl
  | 1, _ => rfl
  | 2, _ => rfl
  | 3, _ => rfl
  | 4, _ => rfl
  | 5, _ => rfl
  | 6, _ => rfl
  | 7, _ => rfl
  | 8, _ => rfl
  | 9, _ => rfl
  | 10, _ => rfl
  | 11, _ => rfl
  | 12, _ => rfl
  | 13, _ => rfl
  | 14, _ => rfl
  | 15, _ => rfl
  | 16, _ => rfl
  | 17, _ => rfl
  | 18, _ => rfl
  | 19, _ => rfl
  | 20, _ => rfl
  | 21, _ => rfl
  | 22, _ => rfl
  | 23, _ => rfl
  | 24, _ => rfl
  | 25, _ => rfl
  | 26, _ => rfl
  | 27, _ => rfl
  | 28, _ => rfl
  | 29, _ => rfl
  | 30, _ => rfl
  | 31, _ => rfl
  | 32, _ => rfl
  | 33, _ => rfl
  | 34, _ => rfl
  | 35, _ => rfl
  | 36, _ => rfl
  | 37, _ => rfl
  | 38, _ => rfl
  | 39, _ => rfl
  | 40, _ => rfl
  | 41, _ => rfl
  | 42, _ => rfl
  | 43, _ => rfl
  | 44, _ => rfl
  | 45, _ => rfl
  | 46, _ => rfl
  | 47, _ => rfl
  | 48, _ => rfl
  | 49, _ => rfl
  | 50, _ => rfl
  | 51, _ => rfl
  | 52, _ => rfl
  | 53, _ => rfl
  | 54, _ => rfl
  | 55, _ => rfl
  | 56, _ => rfl
  | 57, _ => rfl
  | 58, _ => rfl
  | 59, _ => rfl
  | 60, _ => rfl
  | _ + 61, h => exact absurd h (by omega)
