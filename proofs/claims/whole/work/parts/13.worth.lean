/-! the stack on which a text's code is worked out -/
def xJoin (pc a b : Int32) : Int32 :=
  if pc = -9 then bI (¬ a = 0 ∨ ¬ b = 0) else if pc = -10 then bI (¬ a = 0 ∧ ¬ b = 0) else if pc = -11 then bI (a < b) else if pc = -12 then bI (a = b) else if pc = -13 then a + b else if pc = -14 then a - b else a * b
def xStep (env : Nat → Int32) (pc : Int32) (st : List Int32) : List Int32 :=
  if -6 ≤ pc then (if pc < 0 then env (-1 - pc).toNatClampNeg else pc) :: st
  else match st with
    | [] => []
    | a :: r => if pc = -7 then bI (a = 0) :: r else if pc = -8 then (-a) :: r else match r with
      | [] => [a]
      | b :: r' => xJoin pc b a :: r'
def xRun (env : Nat → Int32) (code : Nat → Int32) : Nat → Nat → List Int32 → List Int32
  | _, 0, st => st
  | i, n + 1, st => xRun env code (i + 1) n (xStep env (code i) st)
def xTop (st : List Int32) : Int32 := match st with
  | [] => 0
  | a :: _ => a
def xVal (env : Nat → Int32) (code : Nat → Int32) (a n : Nat) : Int32 := xTop (xRun env code a n [])
theorem xStep_len (env : Nat → Int32) (pc : Int32) (st : List Int32) : (xStep env pc st).length ≤ st.length + 1 := by
  unfold xStep
  split
  · simp
  · match st with
    | [] => simp
    | [a] =>
      simp only []
      split
      · simp
      · split <;> simp
    | a :: b :: r =>
      simp only []
      split
      · simp
      · split
        · simp
        · simp
/-- the array f holds the stack st, its bottom first -/
def xSR (f : Nat → Int32) : List Int32 → Prop
  | [] => True
  | a :: r => f r.length = a ∧ xSR f r
theorem xSR_upd {f : Nat → Int32} {k : Nat} {x : Int32} : ∀ {st : List Int32}, st.length ≤ k → xSR f st → xSR (upd f k x) st := by
  intro st
  induction st with
  | nil => intro _ _; trivial
  | cons a r ih =>
    intro hk h
    have h1 : r.length + 1 ≤ k := hk
    refine ⟨?_, ih (by omega) h.2⟩
    unfold upd
    rw [if_neg (by omega)]
    exact h.1
section S13
variable {l : Launch} {D : va_G} {cy : Nat → ClassId} {ad : Nat → Nat → Nat} {G d : Nat}
theorem c_X4_joined (M : wS) (q a b : Int32) (hq : q < -8) : Ctr l D cy ad G d yX4_joined cX4_joined 3 (some .int) [.int q, .int a, .int b] M (rI fun x M' => M' = M ∧ x = xJoin q a b) := by
  refine Ctr.of (lv0 := [(0, _), (1, _), (2, _)]) (by decide) (Nat.le_of_ble_eq_true rfl) rfl ?_
  intro p e s m args below meth c C hr hlk _
  have C : CX p s m args c cX4_joined 3 "CostsAge$Scene" D cy ad G (wA ad G) (Rm d) d 0 0 := C
  refine V_iload_n (pc := 0) C 0 dX4_joined_0 rfl rfl ?_
  refine V_tbl (pc := 1) C dX4_joined_1 rfl (fun j_1 o_1 t_1 ho_1 ht_1 h_1 _ => ?_) (fun t_1 ht_1 h_1 => ?_) (by decide +kernel) (by decide)
  · match j_1, ho_1, h_1 with
    | 0, ho_1, h_1 =>
      obtain rfl : ((93 : Int)) = o_1 := Option.some.inj ho_1
      obtain rfl : t_1 = 94 := by omega
      have hk1 : q = -14 := by (simp only [i32_eq, Int32.le_iff_toInt_le, Int32.lt_iff_toInt_lt, Int32.not_le, Int32.not_lt, Int32.toInt_add, Int32.toInt_sub, Int32.toInt_mul, Int32.toInt_neg, Int32.toInt_div, tdv2, tdv4, tdv10, tdv52, tdv100, nI_T, apply_ite Int32.toInt, Int.bmod, Int32.reduceToInt] at *; omega)
      refine V_iload_n (pc := 94) C 1 dX4_joined_94 rfl rfl ?_
      refine V_iload_n (pc := 95) C 2 dX4_joined_95 rfl rfl ?_
      refine V_isub (pc := 96) C dX4_joined_96 ?_
      refine V_iret (pc := 97) C hr hlk dX4_joined_97 ⟨_, rfl, ?_⟩
      exact ⟨rfl, by rw [hk1]; rfl⟩
    | 1, ho_1, h_1 =>
      obtain rfl : ((89 : Int)) = o_1 := Option.some.inj ho_1
      obtain rfl : t_1 = 90 := by omega
      have hk1 : q = -13 := by (simp only [i32_eq, Int32.le_iff_toInt_le, Int32.lt_iff_toInt_lt, Int32.not_le, Int32.not_lt, Int32.toInt_add, Int32.toInt_sub, Int32.toInt_mul, Int32.toInt_neg, Int32.toInt_div, tdv2, tdv4, tdv10, tdv52, tdv100, nI_T, apply_ite Int32.toInt, Int.bmod, Int32.reduceToInt] at *; omega)
      refine V_iload_n (pc := 90) C 1 dX4_joined_90 rfl rfl ?_
      refine V_iload_n (pc := 91) C 2 dX4_joined_91 rfl rfl ?_
      refine V_iadd (pc := 92) C dX4_joined_92 ?_
      refine V_iret (pc := 93) C hr hlk dX4_joined_93 ⟨_, rfl, ?_⟩
      exact ⟨rfl, by rw [hk1]; rfl⟩
    | 2, ho_1, h_1 =>
      obtain rfl : ((78 : Int)) = o_1 := Option.some.inj ho_1
      obtain rfl : t_1 = 79 := by omega
      have hk1 : q = -12 := by (simp only [i32_eq, Int32.le_iff_toInt_le, Int32.lt_iff_toInt_lt, Int32.not_le, Int32.not_lt, Int32.toInt_add, Int32.toInt_sub, Int32.toInt_mul, Int32.toInt_neg, Int32.toInt_div, tdv2, tdv4, tdv10, tdv52, tdv100, nI_T, apply_ite Int32.toInt, Int.bmod, Int32.reduceToInt] at *; omega)
      refine V_iload_n (pc := 79) C 1 dX4_joined_79 rfl rfl ?_
      refine V_iload_n (pc := 80) C 2 dX4_joined_80 rfl rfl ?_
      refine V_icmp_ne (tgt := 88) (pc := 81) C dX4_joined_81 (by decide) (fun h_81 => ?_) (fun h_81 => ?_)
      · refine V_iconst (v := 0) (pc := 88) C dX4_joined_88 (by decide) ?_
        refine V_iret (pc := 89) C hr hlk dX4_joined_89 ⟨_, rfl, ?_⟩
        exact ⟨rfl, by rw [hk1]; exact bI_f h_81⟩
      · refine V_iconst (v := 1) (pc := 84) C dX4_joined_84 (by decide) ?_
        refine V_goto (tgt := 89) (pc := 85) C dX4_joined_85 (by decide) ?_
        refine V_iret (pc := 89) C hr hlk dX4_joined_89 ⟨_, rfl, ?_⟩
        exact ⟨rfl, by rw [hk1]; exact bI_t h_81⟩
    | 3, ho_1, h_1 =>
      obtain rfl : ((67 : Int)) = o_1 := Option.some.inj ho_1
      obtain rfl : t_1 = 68 := by omega
      have hk1 : q = -11 := by (simp only [i32_eq, Int32.le_iff_toInt_le, Int32.lt_iff_toInt_lt, Int32.not_le, Int32.not_lt, Int32.toInt_add, Int32.toInt_sub, Int32.toInt_mul, Int32.toInt_neg, Int32.toInt_div, tdv2, tdv4, tdv10, tdv52, tdv100, nI_T, apply_ite Int32.toInt, Int.bmod, Int32.reduceToInt] at *; omega)
      refine V_iload_n (pc := 68) C 1 dX4_joined_68 rfl rfl ?_
      refine V_iload_n (pc := 69) C 2 dX4_joined_69 rfl rfl ?_
      refine V_icmp_ge (tgt := 77) (pc := 70) C dX4_joined_70 (by decide) (fun h_70 => ?_) (fun h_70 => ?_)
      · refine V_iconst (v := 0) (pc := 77) C dX4_joined_77 (by decide) ?_
        refine V_iret (pc := 78) C hr hlk dX4_joined_78 ⟨_, rfl, ?_⟩
        exact ⟨rfl, by rw [hk1]; exact bI_f (Int32.not_lt.mpr h_70)⟩
      · refine V_iconst (v := 1) (pc := 73) C dX4_joined_73 (by decide) ?_
        refine V_goto (tgt := 78) (pc := 74) C dX4_joined_74 (by decide) ?_
        refine V_iret (pc := 78) C hr hlk dX4_joined_78 ⟨_, rfl, ?_⟩
        exact ⟨rfl, by rw [hk1]; exact bI_t (Int32.not_le.mp h_70)⟩
    | 4, ho_1, h_1 =>
      obtain rfl : ((53 : Int)) = o_1 := Option.some.inj ho_1
      obtain rfl : t_1 = 54 := by omega
      have hk1 : q = -10 := by (simp only [i32_eq, Int32.le_iff_toInt_le, Int32.lt_iff_toInt_lt, Int32.not_le, Int32.not_lt, Int32.toInt_add, Int32.toInt_sub, Int32.toInt_mul, Int32.toInt_neg, Int32.toInt_div, tdv2, tdv4, tdv10, tdv52, tdv100, nI_T, apply_ite Int32.toInt, Int.bmod, Int32.reduceToInt] at *; omega)
      refine V_iload_n (pc := 54) C 1 dX4_joined_54 rfl rfl ?_
      refine V_if_eq (tgt := 66) (pc := 55) C dX4_joined_55 (by decide) (fun h_55 => ?_) (fun h_55 => ?_)
      · refine V_iconst (v := 0) (pc := 66) C dX4_joined_66 (by decide) ?_
        refine V_iret (pc := 67) C hr hlk dX4_joined_67 ⟨_, rfl, ?_⟩
        exact ⟨rfl, by rw [hk1]; exact bI_f (fun z => z.1 h_55)⟩
      · refine V_iload_n (pc := 58) C 2 dX4_joined_58 rfl rfl ?_
        refine V_if_eq (tgt := 66) (pc := 59) C dX4_joined_59 (by decide) (fun h_59 => ?_) (fun h_59 => ?_)
        · refine V_iconst (v := 0) (pc := 66) C dX4_joined_66 (by decide) ?_
          refine V_iret (pc := 67) C hr hlk dX4_joined_67 ⟨_, rfl, ?_⟩
          exact ⟨rfl, by rw [hk1]; exact bI_f (fun z => z.2 h_59)⟩
        · refine V_iconst (v := 1) (pc := 62) C dX4_joined_62 (by decide) ?_
          refine V_goto (tgt := 67) (pc := 63) C dX4_joined_63 (by decide) ?_
          refine V_iret (pc := 67) C hr hlk dX4_joined_67 ⟨_, rfl, ?_⟩
          exact ⟨rfl, by rw [hk1]; exact bI_t ⟨h_55, h_59⟩⟩
    | 5, ho_1, h_1 =>
      obtain rfl : ((39 : Int)) = o_1 := Option.some.inj ho_1
      obtain rfl : t_1 = 40 := by omega
      have hk1 : q = -9 := by (simp only [i32_eq, Int32.le_iff_toInt_le, Int32.lt_iff_toInt_lt, Int32.not_le, Int32.not_lt, Int32.toInt_add, Int32.toInt_sub, Int32.toInt_mul, Int32.toInt_neg, Int32.toInt_div, tdv2, tdv4, tdv10, tdv52, tdv100, nI_T, apply_ite Int32.toInt, Int.bmod, Int32.reduceToInt] at *; omega)
      refine V_iload_n (pc := 40) C 1 dX4_joined_40 rfl rfl ?_
      refine V_if_ne (tgt := 48) (pc := 41) C dX4_joined_41 (by decide) (fun h_41 => ?_) (fun h_41 => ?_)
      · refine V_iconst (v := 1) (pc := 48) C dX4_joined_48 (by decide) ?_
        refine V_goto (tgt := 53) (pc := 49) C dX4_joined_49 (by decide) ?_
        refine V_iret (pc := 53) C hr hlk dX4_joined_53 ⟨_, rfl, ?_⟩
        exact ⟨rfl, by rw [hk1]; exact bI_t (Or.inl h_41)⟩
      · refine V_iload_n (pc := 44) C 2 dX4_joined_44 rfl rfl ?_
        refine V_if_eq (tgt := 52) (pc := 45) C dX4_joined_45 (by decide) (fun h_45 => ?_) (fun h_45 => ?_)
        · refine V_iconst (v := 0) (pc := 52) C dX4_joined_52 (by decide) ?_
          refine V_iret (pc := 53) C hr hlk dX4_joined_53 ⟨_, rfl, ?_⟩
          exact ⟨rfl, by rw [hk1]; exact bI_f (fun z => z.elim (fun w => w h_41) (fun w => w h_45))⟩
        · refine V_iconst (v := 1) (pc := 48) C dX4_joined_48 (by decide) ?_
          refine V_goto (tgt := 53) (pc := 49) C dX4_joined_49 (by decide) ?_
          refine V_iret (pc := 53) C hr hlk dX4_joined_53 ⟨_, rfl, ?_⟩
          exact ⟨rfl, by rw [hk1]; exact bI_t (Or.inr h_45)⟩
    | _ + 6, ho_1, h_1 => exact absurd ho_1 (by simp)
  · obtain rfl : t_1 = 98 := by omega
    refine V_iload_n (pc := 98) C 1 dX4_joined_98 rfl rfl ?_
    refine V_iload_n (pc := 99) C 2 dX4_joined_99 rfl rfl ?_
    refine V_imul (pc := 100) C dX4_joined_100 ?_
    refine V_iret (pc := 101) C hr hlk dX4_joined_101 ⟨_, rfl, ?_⟩
    refine ⟨rfl, ?_⟩
    have z : ∀ v : Int32, -14 ≤ v.toInt ∧ v.toInt ≤ -9 → ¬ q = v := fun v hv w => by
      rw [w] at h_1
      omega
    rw [xJoin, if_neg (z _ (by decide)), if_neg (z _ (by decide)), if_neg (z _ (by decide)), if_neg (z _ (by decide)), if_neg (z _ (by decide)), if_neg (z _ (by decide))]
theorem c_X4_show (hG : 30 ≤ G) (M : wS) (a b o : Int32) : Ctr l D cy ad G d yX4_show cX4_show 4 none [.ref (ad 13 0), .int a, .int b, .int o] M (rV fun M' => M' = mset (mset (mset M 14 0 1 a) 14 0 2 b) 13 0 2 o) := by
  refine Ctr.of (lv0 := [(0, _), (1, _), (2, _), (3, _)]) (by decide) (Nat.le_of_ble_eq_true rfl) rfl ?_
  intro p e s m args below meth c C hr hlk _
  have C : CX p s m args c cX4_show 4 "CostsAge$Scene" D cy ad G (wA ad G) (Rm d) d 0 0 := C
  refine V_aload_n (pc := 0) C 0 dX4_show_0 rfl rfl ?_
  refine get_X4_9 (pc := 1) C (wg hG (by decide) (by decide)) dX4_show_1 ?_
  refine V_iconst (v := 1) (pc := 4) C dX4_show_4 (by decide) ?_
  refine V_iload_n (pc := 5) C 1 dX4_show_5 rfl rfl ?_
  refine V_iast (pc := 6) C (1) (by decide) (by decide) (Nat.le_of_ble_eq_true rfl) (wg hG (by decide) (by decide)) (fun _ => wF_14) dX4_show_6 ?_
  refine V_aload_n (pc := 7) C 0 dX4_show_7 rfl rfl ?_
  refine get_X4_9 (pc := 8) C (wg hG (by decide) (by decide)) dX4_show_8 ?_
  refine V_iconst (v := 2) (pc := 11) C dX4_show_11 (by decide) ?_
  refine V_iload_n (pc := 12) C 2 dX4_show_12 rfl rfl ?_
  refine V_iast (pc := 13) C (2) (by decide) (by decide) (Nat.le_of_ble_eq_true rfl) (wg hG (by decide) (by decide)) (fun _ => wF_14) dX4_show_13 ?_
  refine V_aload_n (pc := 14) C 0 dX4_show_14 rfl rfl ?_
  refine V_iload_n (pc := 15) C 3 dX4_show_15 rfl rfl ?_
  refine put_X4_18 (pc := 16) C (wg hG (by decide) (by decide)) dX4_show_16 ?_
  refine V_vret (pc := 19) C hr hlk dX4_show_19 ⟨rfl, ?_⟩
  rfl
end S13
