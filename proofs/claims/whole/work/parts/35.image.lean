def pOf (w : Int32) : Nat → Int32 → Bool
  | 0, _ => false
  | n + 1, k => if 0 ≤ k ∧ k < 6 then (if k = w then true else pOf w n (wUnder k.toNatClampNeg)) else false
section S35
variable {l : Launch} {D : va_G} {cy : Nat → ClassId} {ad : Nat → Nat → Nat} {G d : Nat}
theorem lp_X0_isOf {p : Program} {e : Env} {s : State} {m : MethodId} {args : Array Value} {below : List Frame} {meth : Method} {c : Code} (C : CX p s m args c cX0_isOf 4 "CostsAge$Buyer" D cy ad G (wA ad G) (Rm d) d 0 0) (hr : meth.sig.returnType = (some .boolean)) (hlk : meth.locks = false) (hG : 30 ≤ G) {i : Nat} (hi : i < 7) (w : Int32) (M : wS) (Qf : Int32 → wS → Prop) : ∀ (n t : Nat) (k : Int32), t + n = 6 → Qf (bI (pOf w n k = true)) M → V p l e (Rm d) s m args below meth c 4 D cy ad G (wA ad G) 0 0 (MQ below (wQ D cy ad G (rI Qf)) args s 0 0 (wA ad G)) 7 [(0, .ref (ad 5 i)), (1, .int w), (2, .int k), (3, .int (nI t))] [] M := by
  intro n
  induction n with
  | zero =>
    intro t k ht hq
    refine V_iload_n (pc := 7) C 3 dX0_isOf_7 rfl rfl ?_
    refine V_bipush (v := 6) (pc := 8) C dX0_isOf_8 (by decide) ?_
    refine V_icmp_ge (tgt := 42) (pc := 10) C dX0_isOf_10 (by decide) (fun h_10 => ?_) (fun h_10 => ?_)
    · refine V_iconst (v := 0) (pc := 42) C dX0_isOf_42 (by decide) ?_
      refine V_zret (pc := 43) C hr hlk rfl dX0_isOf_43 ⟨_, rfl, ?_⟩
      exact hq
    · exact absurd (by (simp only [i32_eq, Int32.le_iff_toInt_le, Int32.lt_iff_toInt_lt, Int32.not_le, Int32.not_lt, Int32.toInt_add, Int32.toInt_sub, Int32.toInt_mul, Int32.toInt_neg, Int32.toInt_div, tdv2, tdv4, tdv10, tdv52, tdv100, nI_T, apply_ite Int32.toInt, Int.bmod, Int32.reduceToInt] at *; omega)) h_10
  | succ n ih =>
    intro t k ht hq
    refine V_iload_n (pc := 7) C 3 dX0_isOf_7 rfl rfl ?_
    refine V_bipush (v := 6) (pc := 8) C dX0_isOf_8 (by decide) ?_
    refine V_icmp_ge (tgt := 42) (pc := 10) C dX0_isOf_10 (by decide) (fun h_10 => ?_) (fun h_10 => ?_)
    · exact absurd h_10 (by (simp only [i32_eq, Int32.le_iff_toInt_le, Int32.lt_iff_toInt_lt, Int32.not_le, Int32.not_lt, Int32.toInt_add, Int32.toInt_sub, Int32.toInt_mul, Int32.toInt_neg, Int32.toInt_div, tdv2, tdv4, tdv10, tdv52, tdv100, nI_T, apply_ite Int32.toInt, Int.bmod, Int32.reduceToInt] at *; omega))
    · refine V_iload_n (pc := 13) C 2 dX0_isOf_13 rfl rfl ?_
      refine V_if_lt (tgt := 42) (pc := 14) C dX0_isOf_14 (by decide) (fun h_14 => ?_) (fun h_14 => ?_)
      · refine V_iconst (v := 0) (pc := 42) C dX0_isOf_42 (by decide) ?_
        refine V_zret (pc := 43) C hr hlk rfl dX0_isOf_43 ⟨_, rfl, ?_⟩
        rw [pOf, if_neg (by intro z; first | exact h_20 z.2 | exact absurd z.1 (by (simp only [i32_eq, Int32.le_iff_toInt_le, Int32.lt_iff_toInt_lt, Int32.not_le, Int32.not_lt, Int32.toInt_add, Int32.toInt_sub, Int32.toInt_mul, Int32.toInt_neg, Int32.toInt_div, tdv2, tdv4, tdv10, tdv52, tdv100, nI_T, apply_ite Int32.toInt, Int.bmod, Int32.reduceToInt] at *; omega)) | exact absurd z.2 (by (simp only [i32_eq, Int32.le_iff_toInt_le, Int32.lt_iff_toInt_lt, Int32.not_le, Int32.not_lt, Int32.toInt_add, Int32.toInt_sub, Int32.toInt_mul, Int32.toInt_neg, Int32.toInt_div, tdv2, tdv4, tdv10, tdv52, tdv100, nI_T, apply_ite Int32.toInt, Int.bmod, Int32.reduceToInt] at *; omega)))] at hq
        exact hq
      · refine V_iload_n (pc := 17) C 2 dX0_isOf_17 rfl rfl ?_
        refine V_bipush (v := 6) (pc := 18) C dX0_isOf_18 (by decide) ?_
        refine V_icmp_ge (tgt := 42) (pc := 20) C dX0_isOf_20 (by decide) (fun h_20 => ?_) (fun h_20 => ?_)
        · refine V_iconst (v := 0) (pc := 42) C dX0_isOf_42 (by decide) ?_
          refine V_zret (pc := 43) C hr hlk rfl dX0_isOf_43 ⟨_, rfl, ?_⟩
          rw [pOf, if_neg (by intro z; first | exact h_20 z.2 | exact absurd z.1 (by (simp only [i32_eq, Int32.le_iff_toInt_le, Int32.lt_iff_toInt_lt, Int32.not_le, Int32.not_lt, Int32.toInt_add, Int32.toInt_sub, Int32.toInt_mul, Int32.toInt_neg, Int32.toInt_div, tdv2, tdv4, tdv10, tdv52, tdv100, nI_T, apply_ite Int32.toInt, Int.bmod, Int32.reduceToInt] at *; omega)) | exact absurd z.2 (by (simp only [i32_eq, Int32.le_iff_toInt_le, Int32.lt_iff_toInt_lt, Int32.not_le, Int32.not_lt, Int32.toInt_add, Int32.toInt_sub, Int32.toInt_mul, Int32.toInt_neg, Int32.toInt_div, tdv2, tdv4, tdv10, tdv52, tdv100, nI_T, apply_ite Int32.toInt, Int.bmod, Int32.reduceToInt] at *; omega)))] at hq
          exact hq
        · have hk6 : 0 ≤ k ∧ k < 6 := ⟨by (simp only [i32_eq, Int32.le_iff_toInt_le, Int32.lt_iff_toInt_lt, Int32.not_le, Int32.not_lt, Int32.toInt_add, Int32.toInt_sub, Int32.toInt_mul, Int32.toInt_neg, Int32.toInt_div, tdv2, tdv4, tdv10, tdv52, tdv100, nI_T, apply_ite Int32.toInt, Int.bmod, Int32.reduceToInt] at *; omega), by (simp only [i32_eq, Int32.le_iff_toInt_le, Int32.lt_iff_toInt_lt, Int32.not_le, Int32.not_lt, Int32.toInt_add, Int32.toInt_sub, Int32.toInt_mul, Int32.toInt_neg, Int32.toInt_div, tdv2, tdv4, tdv10, tdv52, tdv100, nI_T, apply_ite Int32.toInt, Int.bmod, Int32.reduceToInt] at *; omega)⟩
          refine V_iload_n (pc := 23) C 2 dX0_isOf_23 rfl rfl ?_
          refine V_iload_n (pc := 24) C 1 dX0_isOf_24 rfl rfl ?_
          refine V_icmp_ne (tgt := 30) (pc := 25) C dX0_isOf_25 (by decide) (fun h_25 => ?_) (fun h_25 => ?_)
          · refine V_under (pc := 30) C qf_X0_18 dX0_isOf_30 ?_
            refine V_iload_n (pc := 33) C 2 dX0_isOf_33 rfl rfl ?_
            obtain ⟨a, ha, rfl⟩ := ix_of (n := 6) hk6.1 hk6.2 (by decide)
            refine V_uald (pc := 34) C (a) rfl ha dX0_isOf_34 ?_
            refine Vs_istore_n (lv' := [(0, _), (1, _), (2, _), (3, _)]) (pc := 35) C dX0_isOf_35 rfl (by decide) rfl rfl ?_
            refine Vs_iinc (v := nI (t + 1)) (lv' := [(0, _), (1, _), (2, _), (3, _)]) (pc := 36) C 3 dX0_isOf_36 rfl (by decide) rfl (nI_i1 (t)) rfl ?_
            refine V_goto (tgt := 7) (pc := 39) C dX0_isOf_39 (by decide) ?_
            refine ih (t + 1) _ (by omega) ?_
            rw [pOf, if_pos hk6, if_neg h_25, nI_clamp (by omega)] at hq
            exact hq
          · refine V_iconst (v := 1) (pc := 28) C dX0_isOf_28 (by decide) ?_
            refine V_zret (pc := 29) C hr hlk rfl dX0_isOf_29 ⟨_, rfl, ?_⟩
            rw [pOf, if_pos hk6, if_pos h_25] at hq
            exact hq
theorem c_X0_isOf (hG : 30 ≤ G) (M : wS) {i : Nat} (hi : i < 7) (w : Int32) : Ctr l D cy ad G d yX0_isOf cX0_isOf 4 (some .boolean) [.ref (ad 5 i), .int w] M (rI fun x M' => M' = M ∧ x = bI (pOf w 6 (M.1 5 i 0) = true)) := by
  refine Ctr.of (lv0 := [(0, _), (1, _)]) (by decide) (Nat.le_of_ble_eq_true rfl) rfl ?_
  intro p e s m args below meth c C hr hlk _
  have C : CX p s m args c cX0_isOf 4 "CostsAge$Buyer" D cy ad G (wA ad G) (Rm d) d 0 0 := C
  refine V_aload_n (pc := 0) C 0 dX0_isOf_0 rfl rfl ?_
  refine get_X0_15 (pc := 1) C (wg hG (by decide) (show i < 7 from hi)) dX0_isOf_1 ?_
  refine Vs_istore_n (lv' := [(0, _), (1, _), (2, _)]) (pc := 4) C dX0_isOf_4 rfl (by decide) rfl rfl ?_
  refine V_iconst (v := 0) (pc := 5) C dX0_isOf_5 (by decide) ?_
  refine Vs_istore_n (lv' := [(0, _), (1, _), (2, _), (3, _)]) (pc := 6) C dX0_isOf_6 rfl (by decide) rfl rfl ?_
  exact lp_X0_isOf C hr hlk hG hi w M _ 6 0 _ rfl ⟨rfl, rfl⟩
def kTaken (M : wS) (nb : Nat) (b w : Int32) : Int32 := if 0 ≤ w ∧ w ≤ 5 then (if 0 ≤ b ∧ b < nI nb then (if pOf w 6 (M.1 5 b.toNatClampNeg 0) = true then M.1 5 b.toNatClampNeg 2 else -13) else -11) else -2
theorem c_X9_taken (hG : 30 ≤ G) (hd : 1 ≤ d) (M : wS) {nb : Nat} (hnb : M.1 0 0 11 = nI nb) (hn7 : nb ≤ 7) (b w : Int32) : Ctr l D cy ad G d yX9_taken cX9_taken 3 (some .int) [.ref (ad 0 0), .int b, .int w] M (rI fun x M' => M' = M ∧ x = kTaken M nb b w) := by
  refine Ctr.of (lv0 := [(0, _), (1, _), (2, _)]) (by decide) (Nat.le_of_ble_eq_true rfl) rfl ?_
  intro p e s m args below meth c C hr hlk _
  have C : CX p s m args c cX9_taken 3 "CostsAge" D cy ad G (wA ad G) (Rm d) d 0 0 := C
  refine V_iload_n (pc := 0) C 2 dX9_taken_0 rfl rfl ?_
  refine V_iconst (v := 5) (pc := 1) C dX9_taken_1 (by decide) ?_
  refine call_X9_102 (pc := 2) C (c_X9_isWithin (d := d - 1) M _ _) (by omega) (Nat.le_of_ble_eq_true rfl) dX9_taken_2 (fun x_2 M_2 h_2 => ?_)
  obtain ⟨e_2, rfl⟩ := h_2
  have e_2 := e_2.symm
  subst e_2
  refine V_if_ne (tgt := 11) (pc := 5) C dX9_taken_5 (by decide) (fun h_5 => ?_) (fun h_5 => ?_)
  · have h_5 := bJ_1.mp h_5
    refine V_aload_n (pc := 11) C 0 dX9_taken_11 rfl rfl ?_
    refine V_iload_n (pc := 12) C 1 dX9_taken_12 rfl rfl ?_
    refine call_X9_136 (pc := 13) C (c_X9_isBuyer (d := d - 1) hG M _) (by omega) (wg hG (by decide) (by decide)) (Nat.le_of_ble_eq_true rfl) dX9_taken_13 (fun x_13 M_13 h_13 => ?_)
    obtain ⟨e_13, rfl⟩ := h_13
    have e_13 := e_13.symm
    subst e_13
    refine V_if_ne (tgt := 22) (pc := 16) C dX9_taken_16 (by decide) (fun h_16 => ?_) (fun h_16 => ?_)
    · have h_16 := bJ_1.mp h_16
      rw [hnb] at h_16
      obtain ⟨k, hk, rfl⟩ := ix_of h_16.1 h_16.2 (by omega)
      refine V_aload_n (pc := 22) C 0 dX9_taken_22 rfl rfl ?_
      refine get_X9_11 (pc := 23) C (wg hG (by decide) (by decide)) dX9_taken_23 ?_
      refine V_iload_n (pc := 26) C 1 dX9_taken_26 rfl rfl ?_
      refine V_aald (pc := 27) C (k) rfl (by omega) (Nat.le_of_ble_eq_true rfl) (wg hG (by decide) (by decide)) wF_1 rfl dX9_taken_27 ?_
      refine V_iload_n (pc := 28) C 2 dX9_taken_28 rfl rfl ?_
      refine call_X9_363 (pc := 29) C (c_X0_isOf (d := d - 1) hG M (i := k) (by omega) _) (by omega) (wg hG (by decide) (show (k) < 7 from (by omega))) (Nat.le_of_ble_eq_true rfl) dX9_taken_29 (fun x_29 M_29 h_29 => ?_)
      obtain ⟨e_29, rfl⟩ := h_29
      have e_29 := e_29.symm
      subst e_29
      refine V_if_eq (tgt := 47) (pc := 32) C dX9_taken_32 (by decide) (fun h_32 => ?_) (fun h_32 => ?_)
      · have h_32 := bJ_0.mp h_32
        refine V_bipush (v := -13) (pc := 47) C dX9_taken_47 (by decide) ?_
        refine V_iret (pc := 49) C hr hlk dX9_taken_49 ⟨_, rfl, ?_⟩
        exact ⟨rfl, by rw [kTaken, if_pos h_5, if_pos h_16, nI_clamp (by omega), if_neg h_32]⟩
      · have h_32 := bJ_1.mp h_32
        refine V_aload_n (pc := 35) C 0 dX9_taken_35 rfl rfl ?_
        refine get_X9_11 (pc := 36) C (wg hG (by decide) (by decide)) dX9_taken_36 ?_
        refine V_iload_n (pc := 39) C 1 dX9_taken_39 rfl rfl ?_
        refine V_aald (pc := 40) C (k) rfl (by omega) (Nat.le_of_ble_eq_true rfl) (wg hG (by decide) (by decide)) wF_1 rfl dX9_taken_40 ?_
        refine get_X9_115 (pc := 41) C (wg hG (by decide) (show (k) < 7 from (by omega))) dX9_taken_41 ?_
        refine V_goto (tgt := 49) (pc := 44) C dX9_taken_44 (by decide) ?_
        refine V_iret (pc := 49) C hr hlk dX9_taken_49 ⟨_, rfl, ?_⟩
        exact ⟨rfl, by rw [kTaken, if_pos h_5, if_pos h_16, nI_clamp (by omega), if_pos h_32]⟩
    · have h_16 := bJ_0.mp h_16
      rw [hnb] at h_16
      refine V_bipush (v := -11) (pc := 19) C dX9_taken_19 (by decide) ?_
      refine V_iret (pc := 21) C hr hlk dX9_taken_21 ⟨_, rfl, ?_⟩
      exact ⟨rfl, by rw [kTaken, if_pos h_5, if_neg h_16]⟩
  · have h_5 := bJ_0.mp h_5
    refine V_bipush (v := -2) (pc := 8) C dX9_taken_8 (by decide) ?_
    refine V_iret (pc := 10) C hr hlk dX9_taken_10 ⟨_, rfl, ?_⟩
    exact ⟨rfl, by rw [kTaken, if_neg h_5]⟩
end S35
