section S77
variable {l : Launch} {D : va_G} {cy : Nat → ClassId} {ad : Nat → Nat → Nat} {G d : Nat}
theorem o_told (hG : 56 ≤ G) (hd : 2 ≤ d) {M0 M : wS} {nb nt tc z bo r : Nat} (h : RR M0 M nb nt tc z bo r) (i what : Int32) : Ctr l D cy ad G d yX10_told cX10_told 3 (some .int) [.ref (ad 30 0), .int i, .int what] M (rI fun x M' => RO (kTold M0 nb nt i what, M0) M x M') := by
  obtain ⟨e1, e2, e3, hC⟩ := h.rC
  obtain ⟨c1, c2, c3, c4, c5, c6, -⟩ := id h
  have hb7 := c1.1.2
  have ht7 := c1.2.1.2
  have kB : (0 ≤ what ∧ what ≤ 6) → kTold M0 nb nt i what = (if 0 ≤ i ∧ i < nI nb then kTellB M0 i.toNatClampNeg what else -2) := fun e => by rw [kTold, if_pos e]
  have kW : (7 ≤ what ∧ what ≤ 10) → kTold M0 nb nt i what = (if 0 ≤ i ∧ i < nI nt then kTellW M0 i.toNatClampNeg what else -2) := fun e => by
    rw [kTold, if_neg (fun y => absurd (Int32.le_trans e.1 y.2) (by decide)), if_pos ⟨Int32.le_trans (by decide) e.1, e.2⟩]
  have kn : ¬ (0 ≤ what ∧ what ≤ 10) → kTold M0 nb nt i what = -2 := fun e => by
    rw [kTold, if_neg (fun y => e ⟨y.1, Int32.le_trans y.2 (by decide)⟩), if_neg e]
  by_cases hw : 0 ≤ what ∧ what ≤ 10
  · obtain ⟨w, hw1, rfl⟩ := what_lt (n := 10) hw (by decide)
    have hc : w = 0 ∨ w = 1 ∨ w = 2 ∨ w = 3 ∨ w = 4 ∨ w = 5 ∨ w = 6 ∨ w = 7 ∨ w = 8 ∨ w = 9 ∨ w = 10 := by omega
    rcases hc with rfl | rfl | rfl | rfl | rfl | rfl | rfl | rfl | rfl | rfl | rfl
    · rw [show nI 0 = 0 from rfl] at *
      clear hw1
      refine Ctr.of (lv0 := [(0, _), (1, _), (2, _)]) (by decide) (Nat.le_of_ble_eq_true rfl) rfl ?_
      intro p e s m args below meth c C hr hlk _
      have C : CX p s m args c cX10_told 3 "CostsAgeModel" D cy ad G (wA ad G) (Rm d) d 0 0 := C
      refine V_iload_n (pc := 0) C 2 dX10_told_0 rfl rfl ?_
      refine V_i2l (pc := 1) C dX10_told_1 ?_
      refine V_lconst (v := 0) (pc := 2) C dX10_told_2 (by decide) ?_
      refine V_ldc2 (pc := 3) C dX10_told_3 qk_X10_139 ?_
      refine call_X10_106 (pc := 6) C (c_in (d := d - 1) M _ 0 10 (by decide) (by decide)) (by omega) (Nat.le_of_ble_eq_true rfl) dX10_told_6 (fun x_6 M_6 h_6 => ?_)
      obtain ⟨e_6, rfl⟩ := h_6
      have e_6 := e_6.symm
      subst e_6
      refine V_if_eq (tgt := 40) (pc := 9) C dX10_told_9 (by decide) (fun h_9 => ?_) (fun h_9 => ?_)
      · have h_9 := bJ_0.mp h_9
        exact absurd hw h_9
      · have h_9 := bJ_1.mp h_9
        skip
        refine V_iload_n (pc := 12) C 2 dX10_told_12 rfl rfl ?_
        refine V_bipush (v := 7) (pc := 13) C dX10_told_13 (by decide) ?_
        refine V_icmp_ge (tgt := 26) (pc := 15) C dX10_told_15 (by decide) (fun h => absurd h (by decide)) (fun _ => ?_)
        refine V_aload_n (pc := 18) C 0 dX10_told_18 rfl rfl ?_
        refine V_iload_n (pc := 19) C 1 dX10_told_19 rfl rfl ?_
        refine call_X10_132 (pc := 20) C (c_X10_isBuyer (d := d - 1) hG (by omega) M c4.1.1 hb7 i) (by omega) (wg hG (by decide) (by decide)) (Nat.le_of_ble_eq_true rfl) dX10_told_20 (fun x_20 M_20 h_20 => ?_)
        obtain ⟨e_20, rfl⟩ := h_20
        have e_20 := e_20.symm
        subst e_20
        refine V_if_eq (tgt := 40) (pc := 23) C dX10_told_23 (by decide) (fun h_23 => ?_) (fun h_23 => ?_)
        · have h_23 := bJ_0.mp h_23
          refine V_bipush (v := -2) (pc := 40) C dX10_told_40 (by decide) ?_
          refine V_iret (pc := 42) C hr hlk dX10_told_42 ⟨_, rfl, ?_⟩
          rw [kB (by decide), if_neg h_23]
          exact ⟨rfl, cK.rf, h.keep⟩
        · have h_23 := bJ_1.mp h_23
          obtain ⟨k, hk, rfl⟩ := ix_of h_23.1 h_23.2 (by omega)
          refine V_iload_n (pc := 26) C 2 dX10_told_26 rfl rfl ?_
          refine V_bipush (v := 7) (pc := 27) C dX10_told_27 (by decide) ?_
          refine V_icmp_lt (tgt := 43) (pc := 29) C dX10_told_29 (by decide) (fun _ => ?_) (fun h => absurd (by decide) h)
          refine V_iload_n (pc := 43) C 2 dX10_told_43 rfl rfl ?_
          refine V_iconst (v := 4) (pc := 44) C dX10_told_44 (by decide) ?_
          refine V_icmp_ge (tgt := 96) (pc := 45) C dX10_told_45 (by decide) (fun h => absurd h (by decide)) (fun _ => ?_)
          refine V_iload_n (pc := 48) C 2 dX10_told_48 rfl rfl ?_
          refine V_if_ne (tgt := 61) (pc := 49) C dX10_told_49 (by decide) (fun h => absurd h (by decide)) (fun _ => ?_)
          refine V_aload_n (pc := 52) C 0 dX10_told_52 rfl rfl ?_
          refine get_X10_23 (pc := 53) C (wg hG (by decide) (by decide)) dX10_told_53 ?_
          refine V_iload_n (pc := 56) C 1 dX10_told_56 rfl rfl ?_
          refine V_iald (pc := 57) C (k) rfl (by omega) (Nat.le_of_ble_eq_true rfl) (wg hG (by decide) (by decide)) wF_34 dX10_told_57 ?_
          refine V_goto (tgt := 95) (pc := 58) C dX10_told_58 (by decide) ?_
          refine V_iret (pc := 95) C hr hlk dX10_told_95 ⟨_, rfl, ?_⟩
          rw [kB (by decide), if_pos h_23, nI_clamp (by omega)]
          exact ⟨(c4.2.2 k (by omega)).1.1, cK.rf, h.keep⟩
    · rw [show nI 1 = 1 from rfl] at *
      clear hw1
      refine Ctr.of (lv0 := [(0, _), (1, _), (2, _)]) (by decide) (Nat.le_of_ble_eq_true rfl) rfl ?_
      intro p e s m args below meth c C hr hlk _
      have C : CX p s m args c cX10_told 3 "CostsAgeModel" D cy ad G (wA ad G) (Rm d) d 0 0 := C
      refine V_iload_n (pc := 0) C 2 dX10_told_0 rfl rfl ?_
      refine V_i2l (pc := 1) C dX10_told_1 ?_
      refine V_lconst (v := 0) (pc := 2) C dX10_told_2 (by decide) ?_
      refine V_ldc2 (pc := 3) C dX10_told_3 qk_X10_139 ?_
      refine call_X10_106 (pc := 6) C (c_in (d := d - 1) M _ 0 10 (by decide) (by decide)) (by omega) (Nat.le_of_ble_eq_true rfl) dX10_told_6 (fun x_6 M_6 h_6 => ?_)
      obtain ⟨e_6, rfl⟩ := h_6
      have e_6 := e_6.symm
      subst e_6
      refine V_if_eq (tgt := 40) (pc := 9) C dX10_told_9 (by decide) (fun h_9 => ?_) (fun h_9 => ?_)
      · have h_9 := bJ_0.mp h_9
        exact absurd hw h_9
      · have h_9 := bJ_1.mp h_9
        skip
        refine V_iload_n (pc := 12) C 2 dX10_told_12 rfl rfl ?_
        refine V_bipush (v := 7) (pc := 13) C dX10_told_13 (by decide) ?_
        refine V_icmp_ge (tgt := 26) (pc := 15) C dX10_told_15 (by decide) (fun h => absurd h (by decide)) (fun _ => ?_)
        refine V_aload_n (pc := 18) C 0 dX10_told_18 rfl rfl ?_
        refine V_iload_n (pc := 19) C 1 dX10_told_19 rfl rfl ?_
        refine call_X10_132 (pc := 20) C (c_X10_isBuyer (d := d - 1) hG (by omega) M c4.1.1 hb7 i) (by omega) (wg hG (by decide) (by decide)) (Nat.le_of_ble_eq_true rfl) dX10_told_20 (fun x_20 M_20 h_20 => ?_)
        obtain ⟨e_20, rfl⟩ := h_20
        have e_20 := e_20.symm
        subst e_20
        refine V_if_eq (tgt := 40) (pc := 23) C dX10_told_23 (by decide) (fun h_23 => ?_) (fun h_23 => ?_)
        · have h_23 := bJ_0.mp h_23
          refine V_bipush (v := -2) (pc := 40) C dX10_told_40 (by decide) ?_
          refine V_iret (pc := 42) C hr hlk dX10_told_42 ⟨_, rfl, ?_⟩
          rw [kB (by decide), if_neg h_23]
          exact ⟨rfl, cK.rf, h.keep⟩
        · have h_23 := bJ_1.mp h_23
          obtain ⟨k, hk, rfl⟩ := ix_of h_23.1 h_23.2 (by omega)
          refine V_iload_n (pc := 26) C 2 dX10_told_26 rfl rfl ?_
          refine V_bipush (v := 7) (pc := 27) C dX10_told_27 (by decide) ?_
          refine V_icmp_lt (tgt := 43) (pc := 29) C dX10_told_29 (by decide) (fun _ => ?_) (fun h => absurd (by decide) h)
          refine V_iload_n (pc := 43) C 2 dX10_told_43 rfl rfl ?_
          refine V_iconst (v := 4) (pc := 44) C dX10_told_44 (by decide) ?_
          refine V_icmp_ge (tgt := 96) (pc := 45) C dX10_told_45 (by decide) (fun h => absurd h (by decide)) (fun _ => ?_)
          refine V_iload_n (pc := 48) C 2 dX10_told_48 rfl rfl ?_
          refine V_if_ne (tgt := 61) (pc := 49) C dX10_told_49 (by decide) (fun _ => ?_) (fun h => absurd h (by decide))
          refine V_iload_n (pc := 61) C 2 dX10_told_61 rfl rfl ?_
          refine V_iconst (v := 1) (pc := 62) C dX10_told_62 (by decide) ?_
          refine V_icmp_ne (tgt := 75) (pc := 63) C dX10_told_63 (by decide) (fun h => absurd (by decide) h) (fun _ => ?_)
          refine V_aload_n (pc := 66) C 0 dX10_told_66 rfl rfl ?_
          refine get_X10_29 (pc := 67) C (wg hG (by decide) (by decide)) dX10_told_67 ?_
          refine V_iload_n (pc := 70) C 1 dX10_told_70 rfl rfl ?_
          refine V_iald (pc := 71) C (k) rfl (by omega) (Nat.le_of_ble_eq_true rfl) (wg hG (by decide) (by decide)) wF_36 dX10_told_71 ?_
          refine V_goto (tgt := 95) (pc := 72) C dX10_told_72 (by decide) ?_
          refine V_iret (pc := 95) C hr hlk dX10_told_95 ⟨_, rfl, ?_⟩
          rw [kB (by decide), if_pos h_23, nI_clamp (by omega)]
          exact ⟨(c4.2.2 k (by omega)).1.2.2.1, cK.rf, h.keep⟩
    · rw [show nI 2 = 2 from rfl] at *
      clear hw1
      refine Ctr.of (lv0 := [(0, _), (1, _), (2, _)]) (by decide) (Nat.le_of_ble_eq_true rfl) rfl ?_
      intro p e s m args below meth c C hr hlk _
      have C : CX p s m args c cX10_told 3 "CostsAgeModel" D cy ad G (wA ad G) (Rm d) d 0 0 := C
      refine V_iload_n (pc := 0) C 2 dX10_told_0 rfl rfl ?_
      refine V_i2l (pc := 1) C dX10_told_1 ?_
      refine V_lconst (v := 0) (pc := 2) C dX10_told_2 (by decide) ?_
      refine V_ldc2 (pc := 3) C dX10_told_3 qk_X10_139 ?_
      refine call_X10_106 (pc := 6) C (c_in (d := d - 1) M _ 0 10 (by decide) (by decide)) (by omega) (Nat.le_of_ble_eq_true rfl) dX10_told_6 (fun x_6 M_6 h_6 => ?_)
      obtain ⟨e_6, rfl⟩ := h_6
      have e_6 := e_6.symm
      subst e_6
      refine V_if_eq (tgt := 40) (pc := 9) C dX10_told_9 (by decide) (fun h_9 => ?_) (fun h_9 => ?_)
      · have h_9 := bJ_0.mp h_9
        exact absurd hw h_9
      · have h_9 := bJ_1.mp h_9
        skip
        refine V_iload_n (pc := 12) C 2 dX10_told_12 rfl rfl ?_
        refine V_bipush (v := 7) (pc := 13) C dX10_told_13 (by decide) ?_
        refine V_icmp_ge (tgt := 26) (pc := 15) C dX10_told_15 (by decide) (fun h => absurd h (by decide)) (fun _ => ?_)
        refine V_aload_n (pc := 18) C 0 dX10_told_18 rfl rfl ?_
        refine V_iload_n (pc := 19) C 1 dX10_told_19 rfl rfl ?_
        refine call_X10_132 (pc := 20) C (c_X10_isBuyer (d := d - 1) hG (by omega) M c4.1.1 hb7 i) (by omega) (wg hG (by decide) (by decide)) (Nat.le_of_ble_eq_true rfl) dX10_told_20 (fun x_20 M_20 h_20 => ?_)
        obtain ⟨e_20, rfl⟩ := h_20
        have e_20 := e_20.symm
        subst e_20
        refine V_if_eq (tgt := 40) (pc := 23) C dX10_told_23 (by decide) (fun h_23 => ?_) (fun h_23 => ?_)
        · have h_23 := bJ_0.mp h_23
          refine V_bipush (v := -2) (pc := 40) C dX10_told_40 (by decide) ?_
          refine V_iret (pc := 42) C hr hlk dX10_told_42 ⟨_, rfl, ?_⟩
          rw [kB (by decide), if_neg h_23]
          exact ⟨rfl, cK.rf, h.keep⟩
        · have h_23 := bJ_1.mp h_23
          obtain ⟨k, hk, rfl⟩ := ix_of h_23.1 h_23.2 (by omega)
          refine V_iload_n (pc := 26) C 2 dX10_told_26 rfl rfl ?_
          refine V_bipush (v := 7) (pc := 27) C dX10_told_27 (by decide) ?_
          refine V_icmp_lt (tgt := 43) (pc := 29) C dX10_told_29 (by decide) (fun _ => ?_) (fun h => absurd (by decide) h)
          refine V_iload_n (pc := 43) C 2 dX10_told_43 rfl rfl ?_
          refine V_iconst (v := 4) (pc := 44) C dX10_told_44 (by decide) ?_
          refine V_icmp_ge (tgt := 96) (pc := 45) C dX10_told_45 (by decide) (fun h => absurd h (by decide)) (fun _ => ?_)
          refine V_iload_n (pc := 48) C 2 dX10_told_48 rfl rfl ?_
          refine V_if_ne (tgt := 61) (pc := 49) C dX10_told_49 (by decide) (fun _ => ?_) (fun h => absurd h (by decide))
          refine V_iload_n (pc := 61) C 2 dX10_told_61 rfl rfl ?_
          refine V_iconst (v := 1) (pc := 62) C dX10_told_62 (by decide) ?_
          refine V_icmp_ne (tgt := 75) (pc := 63) C dX10_told_63 (by decide) (fun _ => ?_) (fun h => absurd h (by decide))
          refine V_iload_n (pc := 75) C 2 dX10_told_75 rfl rfl ?_
          refine V_iconst (v := 2) (pc := 76) C dX10_told_76 (by decide) ?_
          refine V_icmp_ne (tgt := 89) (pc := 77) C dX10_told_77 (by decide) (fun h => absurd (by decide) h) (fun _ => ?_)
          refine V_aload_n (pc := 80) C 0 dX10_told_80 rfl rfl ?_
          refine get_X10_26 (pc := 81) C (wg hG (by decide) (by decide)) dX10_told_81 ?_
          refine V_iload_n (pc := 84) C 1 dX10_told_84 rfl rfl ?_
          refine V_iald (pc := 85) C (k) rfl (by omega) (Nat.le_of_ble_eq_true rfl) (wg hG (by decide) (by decide)) wF_35 dX10_told_85 ?_
          refine V_goto (tgt := 95) (pc := 86) C dX10_told_86 (by decide) ?_
          refine V_iret (pc := 95) C hr hlk dX10_told_95 ⟨_, rfl, ?_⟩
          rw [kB (by decide), if_pos h_23, nI_clamp (by omega)]
          exact ⟨(c4.2.2 k (by omega)).1.2.1, cK.rf, h.keep⟩
    · rw [show nI 3 = 3 from rfl] at *
      clear hw1
      refine Ctr.of (lv0 := [(0, _), (1, _), (2, _)]) (by decide) (Nat.le_of_ble_eq_true rfl) rfl ?_
      intro p e s m args below meth c C hr hlk _
      have C : CX p s m args c cX10_told 3 "CostsAgeModel" D cy ad G (wA ad G) (Rm d) d 0 0 := C
      refine V_iload_n (pc := 0) C 2 dX10_told_0 rfl rfl ?_
      refine V_i2l (pc := 1) C dX10_told_1 ?_
      refine V_lconst (v := 0) (pc := 2) C dX10_told_2 (by decide) ?_
      refine V_ldc2 (pc := 3) C dX10_told_3 qk_X10_139 ?_
      refine call_X10_106 (pc := 6) C (c_in (d := d - 1) M _ 0 10 (by decide) (by decide)) (by omega) (Nat.le_of_ble_eq_true rfl) dX10_told_6 (fun x_6 M_6 h_6 => ?_)
      obtain ⟨e_6, rfl⟩ := h_6
      have e_6 := e_6.symm
      subst e_6
      refine V_if_eq (tgt := 40) (pc := 9) C dX10_told_9 (by decide) (fun h_9 => ?_) (fun h_9 => ?_)
      · have h_9 := bJ_0.mp h_9
        exact absurd hw h_9
      · have h_9 := bJ_1.mp h_9
        skip
        refine V_iload_n (pc := 12) C 2 dX10_told_12 rfl rfl ?_
        refine V_bipush (v := 7) (pc := 13) C dX10_told_13 (by decide) ?_
        refine V_icmp_ge (tgt := 26) (pc := 15) C dX10_told_15 (by decide) (fun h => absurd h (by decide)) (fun _ => ?_)
        refine V_aload_n (pc := 18) C 0 dX10_told_18 rfl rfl ?_
        refine V_iload_n (pc := 19) C 1 dX10_told_19 rfl rfl ?_
        refine call_X10_132 (pc := 20) C (c_X10_isBuyer (d := d - 1) hG (by omega) M c4.1.1 hb7 i) (by omega) (wg hG (by decide) (by decide)) (Nat.le_of_ble_eq_true rfl) dX10_told_20 (fun x_20 M_20 h_20 => ?_)
        obtain ⟨e_20, rfl⟩ := h_20
        have e_20 := e_20.symm
        subst e_20
        refine V_if_eq (tgt := 40) (pc := 23) C dX10_told_23 (by decide) (fun h_23 => ?_) (fun h_23 => ?_)
        · have h_23 := bJ_0.mp h_23
          refine V_bipush (v := -2) (pc := 40) C dX10_told_40 (by decide) ?_
          refine V_iret (pc := 42) C hr hlk dX10_told_42 ⟨_, rfl, ?_⟩
          rw [kB (by decide), if_neg h_23]
          exact ⟨rfl, cK.rf, h.keep⟩
        · have h_23 := bJ_1.mp h_23
          obtain ⟨k, hk, rfl⟩ := ix_of h_23.1 h_23.2 (by omega)
          refine V_iload_n (pc := 26) C 2 dX10_told_26 rfl rfl ?_
          refine V_bipush (v := 7) (pc := 27) C dX10_told_27 (by decide) ?_
          refine V_icmp_lt (tgt := 43) (pc := 29) C dX10_told_29 (by decide) (fun _ => ?_) (fun h => absurd (by decide) h)
          refine V_iload_n (pc := 43) C 2 dX10_told_43 rfl rfl ?_
          refine V_iconst (v := 4) (pc := 44) C dX10_told_44 (by decide) ?_
          refine V_icmp_ge (tgt := 96) (pc := 45) C dX10_told_45 (by decide) (fun h => absurd h (by decide)) (fun _ => ?_)
          refine V_iload_n (pc := 48) C 2 dX10_told_48 rfl rfl ?_
          refine V_if_ne (tgt := 61) (pc := 49) C dX10_told_49 (by decide) (fun _ => ?_) (fun h => absurd h (by decide))
          refine V_iload_n (pc := 61) C 2 dX10_told_61 rfl rfl ?_
          refine V_iconst (v := 1) (pc := 62) C dX10_told_62 (by decide) ?_
          refine V_icmp_ne (tgt := 75) (pc := 63) C dX10_told_63 (by decide) (fun _ => ?_) (fun h => absurd h (by decide))
          refine V_iload_n (pc := 75) C 2 dX10_told_75 rfl rfl ?_
          refine V_iconst (v := 2) (pc := 76) C dX10_told_76 (by decide) ?_
          refine V_icmp_ne (tgt := 89) (pc := 77) C dX10_told_77 (by decide) (fun _ => ?_) (fun h => absurd h (by decide))
          refine V_aload_n (pc := 89) C 0 dX10_told_89 rfl rfl ?_
          refine get_X10_32 (pc := 90) C (wg hG (by decide) (by decide)) dX10_told_90 ?_
          refine V_iload_n (pc := 93) C 1 dX10_told_93 rfl rfl ?_
          refine V_iald (pc := 94) C (k) rfl (by omega) (Nat.le_of_ble_eq_true rfl) (wg hG (by decide) (by decide)) wF_37 dX10_told_94 ?_
          refine V_iret (pc := 95) C hr hlk dX10_told_95 ⟨_, rfl, ?_⟩
          rw [kB (by decide), if_pos h_23, nI_clamp (by omega)]
          exact ⟨(c4.2.2 k (by omega)).1.2.2.2.1, cK.rf, h.keep⟩
    · rw [show nI 4 = 4 from rfl] at *
      clear hw1
      refine Ctr.of (lv0 := [(0, _), (1, _), (2, _)]) (by decide) (Nat.le_of_ble_eq_true rfl) rfl ?_
      intro p e s m args below meth c C hr hlk _
      have C : CX p s m args c cX10_told 3 "CostsAgeModel" D cy ad G (wA ad G) (Rm d) d 0 0 := C
      refine V_iload_n (pc := 0) C 2 dX10_told_0 rfl rfl ?_
      refine V_i2l (pc := 1) C dX10_told_1 ?_
      refine V_lconst (v := 0) (pc := 2) C dX10_told_2 (by decide) ?_
      refine V_ldc2 (pc := 3) C dX10_told_3 qk_X10_139 ?_
      refine call_X10_106 (pc := 6) C (c_in (d := d - 1) M _ 0 10 (by decide) (by decide)) (by omega) (Nat.le_of_ble_eq_true rfl) dX10_told_6 (fun x_6 M_6 h_6 => ?_)
      obtain ⟨e_6, rfl⟩ := h_6
      have e_6 := e_6.symm
      subst e_6
      refine V_if_eq (tgt := 40) (pc := 9) C dX10_told_9 (by decide) (fun h_9 => ?_) (fun h_9 => ?_)
      · have h_9 := bJ_0.mp h_9
        exact absurd hw h_9
      · have h_9 := bJ_1.mp h_9
        skip
        refine V_iload_n (pc := 12) C 2 dX10_told_12 rfl rfl ?_
        refine V_bipush (v := 7) (pc := 13) C dX10_told_13 (by decide) ?_
        refine V_icmp_ge (tgt := 26) (pc := 15) C dX10_told_15 (by decide) (fun h => absurd h (by decide)) (fun _ => ?_)
        refine V_aload_n (pc := 18) C 0 dX10_told_18 rfl rfl ?_
        refine V_iload_n (pc := 19) C 1 dX10_told_19 rfl rfl ?_
        refine call_X10_132 (pc := 20) C (c_X10_isBuyer (d := d - 1) hG (by omega) M c4.1.1 hb7 i) (by omega) (wg hG (by decide) (by decide)) (Nat.le_of_ble_eq_true rfl) dX10_told_20 (fun x_20 M_20 h_20 => ?_)
        obtain ⟨e_20, rfl⟩ := h_20
        have e_20 := e_20.symm
        subst e_20
        refine V_if_eq (tgt := 40) (pc := 23) C dX10_told_23 (by decide) (fun h_23 => ?_) (fun h_23 => ?_)
        · have h_23 := bJ_0.mp h_23
          refine V_bipush (v := -2) (pc := 40) C dX10_told_40 (by decide) ?_
          refine V_iret (pc := 42) C hr hlk dX10_told_42 ⟨_, rfl, ?_⟩
          rw [kB (by decide), if_neg h_23]
          exact ⟨rfl, cK.rf, h.keep⟩
        · have h_23 := bJ_1.mp h_23
          obtain ⟨k, hk, rfl⟩ := ix_of h_23.1 h_23.2 (by omega)
          refine V_iload_n (pc := 26) C 2 dX10_told_26 rfl rfl ?_
          refine V_bipush (v := 7) (pc := 27) C dX10_told_27 (by decide) ?_
          refine V_icmp_lt (tgt := 43) (pc := 29) C dX10_told_29 (by decide) (fun _ => ?_) (fun h => absurd (by decide) h)
          refine V_iload_n (pc := 43) C 2 dX10_told_43 rfl rfl ?_
          refine V_iconst (v := 4) (pc := 44) C dX10_told_44 (by decide) ?_
          refine V_icmp_ge (tgt := 96) (pc := 45) C dX10_told_45 (by decide) (fun _ => ?_) (fun h => absurd (by decide) h)
          refine V_iload_n (pc := 96) C 2 dX10_told_96 rfl rfl ?_
          refine V_bipush (v := 7) (pc := 97) C dX10_told_97 (by decide) ?_
          refine V_icmp_ge (tgt := 145) (pc := 99) C dX10_told_99 (by decide) (fun h => absurd h (by decide)) (fun _ => ?_)
          refine V_iload_n (pc := 102) C 2 dX10_told_102 rfl rfl ?_
          refine V_iconst (v := 4) (pc := 103) C dX10_told_103 (by decide) ?_
          refine V_icmp_ne (tgt := 116) (pc := 104) C dX10_told_104 (by decide) (fun h => absurd (by decide) h) (fun _ => ?_)
          refine V_aload_n (pc := 107) C 0 dX10_told_107 rfl rfl ?_
          refine get_X10_35 (pc := 108) C (wg hG (by decide) (by decide)) dX10_told_108 ?_
          refine V_iload_n (pc := 111) C 1 dX10_told_111 rfl rfl ?_
          refine V_iald (pc := 112) C (k) rfl (by omega) (Nat.le_of_ble_eq_true rfl) (wg hG (by decide) (by decide)) wF_38 dX10_told_112 ?_
          refine V_goto (tgt := 144) (pc := 113) C dX10_told_113 (by decide) ?_
          refine V_iret (pc := 144) C hr hlk dX10_told_144 ⟨_, rfl, ?_⟩
          rw [kB (by decide), if_pos h_23, nI_clamp (by omega)]
          exact ⟨(c4.2.2 k (by omega)).1.2.2.2.2, cK.rf, h.keep⟩
    · rw [show nI 5 = 5 from rfl] at *
      clear hw1
      refine Ctr.of (lv0 := [(0, _), (1, _), (2, _)]) (by decide) (Nat.le_of_ble_eq_true rfl) rfl ?_
      intro p e s m args below meth c C hr hlk _
      have C : CX p s m args c cX10_told 3 "CostsAgeModel" D cy ad G (wA ad G) (Rm d) d 0 0 := C
      refine V_iload_n (pc := 0) C 2 dX10_told_0 rfl rfl ?_
      refine V_i2l (pc := 1) C dX10_told_1 ?_
      refine V_lconst (v := 0) (pc := 2) C dX10_told_2 (by decide) ?_
      refine V_ldc2 (pc := 3) C dX10_told_3 qk_X10_139 ?_
      refine call_X10_106 (pc := 6) C (c_in (d := d - 1) M _ 0 10 (by decide) (by decide)) (by omega) (Nat.le_of_ble_eq_true rfl) dX10_told_6 (fun x_6 M_6 h_6 => ?_)
      obtain ⟨e_6, rfl⟩ := h_6
      have e_6 := e_6.symm
      subst e_6
      refine V_if_eq (tgt := 40) (pc := 9) C dX10_told_9 (by decide) (fun h_9 => ?_) (fun h_9 => ?_)
      · have h_9 := bJ_0.mp h_9
        exact absurd hw h_9
      · have h_9 := bJ_1.mp h_9
        skip
        refine V_iload_n (pc := 12) C 2 dX10_told_12 rfl rfl ?_
        refine V_bipush (v := 7) (pc := 13) C dX10_told_13 (by decide) ?_
        refine V_icmp_ge (tgt := 26) (pc := 15) C dX10_told_15 (by decide) (fun h => absurd h (by decide)) (fun _ => ?_)
        refine V_aload_n (pc := 18) C 0 dX10_told_18 rfl rfl ?_
        refine V_iload_n (pc := 19) C 1 dX10_told_19 rfl rfl ?_
        refine call_X10_132 (pc := 20) C (c_X10_isBuyer (d := d - 1) hG (by omega) M c4.1.1 hb7 i) (by omega) (wg hG (by decide) (by decide)) (Nat.le_of_ble_eq_true rfl) dX10_told_20 (fun x_20 M_20 h_20 => ?_)
        obtain ⟨e_20, rfl⟩ := h_20
        have e_20 := e_20.symm
        subst e_20
        refine V_if_eq (tgt := 40) (pc := 23) C dX10_told_23 (by decide) (fun h_23 => ?_) (fun h_23 => ?_)
        · have h_23 := bJ_0.mp h_23
          refine V_bipush (v := -2) (pc := 40) C dX10_told_40 (by decide) ?_
          refine V_iret (pc := 42) C hr hlk dX10_told_42 ⟨_, rfl, ?_⟩
          rw [kB (by decide), if_neg h_23]
          exact ⟨rfl, cK.rf, h.keep⟩
        · have h_23 := bJ_1.mp h_23
          obtain ⟨k, hk, rfl⟩ := ix_of h_23.1 h_23.2 (by omega)
          refine V_iload_n (pc := 26) C 2 dX10_told_26 rfl rfl ?_
          refine V_bipush (v := 7) (pc := 27) C dX10_told_27 (by decide) ?_
          refine V_icmp_lt (tgt := 43) (pc := 29) C dX10_told_29 (by decide) (fun _ => ?_) (fun h => absurd (by decide) h)
          refine V_iload_n (pc := 43) C 2 dX10_told_43 rfl rfl ?_
          refine V_iconst (v := 4) (pc := 44) C dX10_told_44 (by decide) ?_
          refine V_icmp_ge (tgt := 96) (pc := 45) C dX10_told_45 (by decide) (fun _ => ?_) (fun h => absurd (by decide) h)
          refine V_iload_n (pc := 96) C 2 dX10_told_96 rfl rfl ?_
          refine V_bipush (v := 7) (pc := 97) C dX10_told_97 (by decide) ?_
          refine V_icmp_ge (tgt := 145) (pc := 99) C dX10_told_99 (by decide) (fun h => absurd h (by decide)) (fun _ => ?_)
          refine V_iload_n (pc := 102) C 2 dX10_told_102 rfl rfl ?_
          refine V_iconst (v := 4) (pc := 103) C dX10_told_103 (by decide) ?_
          refine V_icmp_ne (tgt := 116) (pc := 104) C dX10_told_104 (by decide) (fun _ => ?_) (fun h => absurd h (by decide))
          refine V_iload_n (pc := 116) C 2 dX10_told_116 rfl rfl ?_
          refine V_iconst (v := 5) (pc := 117) C dX10_told_117 (by decide) ?_
          refine V_icmp_ne (tgt := 139) (pc := 118) C dX10_told_118 (by decide) (fun h => absurd (by decide) h) (fun _ => ?_)
          refine V_aload_n (pc := 121) C 0 dX10_told_121 rfl rfl ?_
          refine V_iload_n (pc := 122) C 1 dX10_told_122 rfl rfl ?_
          refine V_aload_n (pc := 123) C 0 dX10_told_123 rfl rfl ?_
          refine get_X10_29 (pc := 124) C (wg hG (by decide) (by decide)) dX10_told_124 ?_
          refine V_iload_n (pc := 127) C 1 dX10_told_127 rfl rfl ?_
          refine V_iald (pc := 128) C (k) rfl (by omega) (Nat.le_of_ble_eq_true rfl) (wg hG (by decide) (by decide)) wF_36 dX10_told_128 ?_
          refine V_aload_n (pc := 129) C 0 dX10_told_129 rfl rfl ?_
          refine get_X10_141 (pc := 130) C (wg hG (by decide) (by decide)) dX10_told_130 ?_
          rw [(c4.2.2 k (by omega)).1.2.2.1, c4.2.1.2.1]
          refine call_X10_144 (pc := 133) C (c_X10_pence (d := d - 1) hG hC (k := k) (by omega) (M0.1 26 0 4) (hC.1.2.2.2.1 k (by omega)).2.2.2.1) (by omega) (wg hG (by decide) (by decide)) (Nat.le_of_ble_eq_true rfl) dX10_told_133 (fun x_133 M_133 h_133 => ?_)
          obtain ⟨e_133, rfl⟩ := h_133
          have e_133 := e_133.symm
          subst e_133
          refine V_goto (tgt := 144) (pc := 136) C dX10_told_136 (by decide) ?_
          refine V_iret (pc := 144) C hr hlk dX10_told_144 ⟨_, rfl, ?_⟩
          rw [kB (by decide), if_pos h_23, nI_clamp (by omega)]
          exact ⟨rfl, cK.rf, h.keep⟩
    · rw [show nI 6 = 6 from rfl] at *
      clear hw1
      refine Ctr.of (lv0 := [(0, _), (1, _), (2, _)]) (by decide) (Nat.le_of_ble_eq_true rfl) rfl ?_
      intro p e s m args below meth c C hr hlk _
      have C : CX p s m args c cX10_told 3 "CostsAgeModel" D cy ad G (wA ad G) (Rm d) d 0 0 := C
      refine V_iload_n (pc := 0) C 2 dX10_told_0 rfl rfl ?_
      refine V_i2l (pc := 1) C dX10_told_1 ?_
      refine V_lconst (v := 0) (pc := 2) C dX10_told_2 (by decide) ?_
      refine V_ldc2 (pc := 3) C dX10_told_3 qk_X10_139 ?_
      refine call_X10_106 (pc := 6) C (c_in (d := d - 1) M _ 0 10 (by decide) (by decide)) (by omega) (Nat.le_of_ble_eq_true rfl) dX10_told_6 (fun x_6 M_6 h_6 => ?_)
      obtain ⟨e_6, rfl⟩ := h_6
      have e_6 := e_6.symm
      subst e_6
      refine V_if_eq (tgt := 40) (pc := 9) C dX10_told_9 (by decide) (fun h_9 => ?_) (fun h_9 => ?_)
      · have h_9 := bJ_0.mp h_9
        exact absurd hw h_9
      · have h_9 := bJ_1.mp h_9
        skip
        refine V_iload_n (pc := 12) C 2 dX10_told_12 rfl rfl ?_
        refine V_bipush (v := 7) (pc := 13) C dX10_told_13 (by decide) ?_
        refine V_icmp_ge (tgt := 26) (pc := 15) C dX10_told_15 (by decide) (fun h => absurd h (by decide)) (fun _ => ?_)
        refine V_aload_n (pc := 18) C 0 dX10_told_18 rfl rfl ?_
        refine V_iload_n (pc := 19) C 1 dX10_told_19 rfl rfl ?_
        refine call_X10_132 (pc := 20) C (c_X10_isBuyer (d := d - 1) hG (by omega) M c4.1.1 hb7 i) (by omega) (wg hG (by decide) (by decide)) (Nat.le_of_ble_eq_true rfl) dX10_told_20 (fun x_20 M_20 h_20 => ?_)
        obtain ⟨e_20, rfl⟩ := h_20
        have e_20 := e_20.symm
        subst e_20
        refine V_if_eq (tgt := 40) (pc := 23) C dX10_told_23 (by decide) (fun h_23 => ?_) (fun h_23 => ?_)
        · have h_23 := bJ_0.mp h_23
          refine V_bipush (v := -2) (pc := 40) C dX10_told_40 (by decide) ?_
          refine V_iret (pc := 42) C hr hlk dX10_told_42 ⟨_, rfl, ?_⟩
          rw [kB (by decide), if_neg h_23]
          exact ⟨rfl, cK.rf, h.keep⟩
        · have h_23 := bJ_1.mp h_23
          obtain ⟨k, hk, rfl⟩ := ix_of h_23.1 h_23.2 (by omega)
          refine V_iload_n (pc := 26) C 2 dX10_told_26 rfl rfl ?_
          refine V_bipush (v := 7) (pc := 27) C dX10_told_27 (by decide) ?_
          refine V_icmp_lt (tgt := 43) (pc := 29) C dX10_told_29 (by decide) (fun _ => ?_) (fun h => absurd (by decide) h)
          refine V_iload_n (pc := 43) C 2 dX10_told_43 rfl rfl ?_
          refine V_iconst (v := 4) (pc := 44) C dX10_told_44 (by decide) ?_
          refine V_icmp_ge (tgt := 96) (pc := 45) C dX10_told_45 (by decide) (fun _ => ?_) (fun h => absurd (by decide) h)
          refine V_iload_n (pc := 96) C 2 dX10_told_96 rfl rfl ?_
          refine V_bipush (v := 7) (pc := 97) C dX10_told_97 (by decide) ?_
          refine V_icmp_ge (tgt := 145) (pc := 99) C dX10_told_99 (by decide) (fun h => absurd h (by decide)) (fun _ => ?_)
          refine V_iload_n (pc := 102) C 2 dX10_told_102 rfl rfl ?_
          refine V_iconst (v := 4) (pc := 103) C dX10_told_103 (by decide) ?_
          refine V_icmp_ne (tgt := 116) (pc := 104) C dX10_told_104 (by decide) (fun _ => ?_) (fun h => absurd h (by decide))
          refine V_iload_n (pc := 116) C 2 dX10_told_116 rfl rfl ?_
          refine V_iconst (v := 5) (pc := 117) C dX10_told_117 (by decide) ?_
          refine V_icmp_ne (tgt := 139) (pc := 118) C dX10_told_118 (by decide) (fun _ => ?_) (fun h => absurd h (by decide))
          refine V_aload_n (pc := 139) C 0 dX10_told_139 rfl rfl ?_
          refine V_iload_n (pc := 140) C 1 dX10_told_140 rfl rfl ?_
          refine call_X10_148 (pc := 141) C (c_X10_asks (d := d - 1) hG hC (k := k) (by omega)) (by omega) (wg hG (by decide) (by decide)) (Nat.le_of_ble_eq_true rfl) dX10_told_141 (fun x_141 M_141 h_141 => ?_)
          obtain ⟨e_141, rfl⟩ := h_141
          have e_141 := e_141.symm
          subst e_141
          refine V_iret (pc := 144) C hr hlk dX10_told_144 ⟨_, rfl, ?_⟩
          rw [kB (by decide), if_pos h_23, nI_clamp (by omega)]
          exact ⟨rfl, cK.rf, h.keep⟩
    · rw [show nI 7 = 7 from rfl] at *
      clear hw1
      refine Ctr.of (lv0 := [(0, _), (1, _), (2, _)]) (by decide) (Nat.le_of_ble_eq_true rfl) rfl ?_
      intro p e s m args below meth c C hr hlk _
      have C : CX p s m args c cX10_told 3 "CostsAgeModel" D cy ad G (wA ad G) (Rm d) d 0 0 := C
      refine V_iload_n (pc := 0) C 2 dX10_told_0 rfl rfl ?_
      refine V_i2l (pc := 1) C dX10_told_1 ?_
      refine V_lconst (v := 0) (pc := 2) C dX10_told_2 (by decide) ?_
      refine V_ldc2 (pc := 3) C dX10_told_3 qk_X10_139 ?_
      refine call_X10_106 (pc := 6) C (c_in (d := d - 1) M _ 0 10 (by decide) (by decide)) (by omega) (Nat.le_of_ble_eq_true rfl) dX10_told_6 (fun x_6 M_6 h_6 => ?_)
      obtain ⟨e_6, rfl⟩ := h_6
      have e_6 := e_6.symm
      subst e_6
      refine V_if_eq (tgt := 40) (pc := 9) C dX10_told_9 (by decide) (fun h_9 => ?_) (fun h_9 => ?_)
      · have h_9 := bJ_0.mp h_9
        exact absurd hw h_9
      · have h_9 := bJ_1.mp h_9
        skip
        refine V_iload_n (pc := 12) C 2 dX10_told_12 rfl rfl ?_
        refine V_bipush (v := 7) (pc := 13) C dX10_told_13 (by decide) ?_
        refine V_icmp_ge (tgt := 26) (pc := 15) C dX10_told_15 (by decide) (fun _ => ?_) (fun h => absurd (by decide) h)
        refine V_iload_n (pc := 26) C 2 dX10_told_26 rfl rfl ?_
        refine V_bipush (v := 7) (pc := 27) C dX10_told_27 (by decide) ?_
        refine V_icmp_lt (tgt := 43) (pc := 29) C dX10_told_29 (by decide) (fun h => absurd h (by decide)) (fun _ => ?_)
        refine V_aload_n (pc := 32) C 0 dX10_told_32 rfl rfl ?_
        refine V_iload_n (pc := 33) C 1 dX10_told_33 rfl rfl ?_
        refine call_X10_128 (pc := 34) C (c_X10_isThing (d := d - 1) hG (by omega) M c4.1.2 ht7 i) (by omega) (wg hG (by decide) (by decide)) (Nat.le_of_ble_eq_true rfl) dX10_told_34 (fun x_34 M_34 h_34 => ?_)
        obtain ⟨e_34, rfl⟩ := h_34
        have e_34 := e_34.symm
        subst e_34
        refine V_if_ne (tgt := 43) (pc := 37) C dX10_told_37 (by decide) (fun h_37 => ?_) (fun h_37 => ?_)
        · have h_37 := bJ_1.mp h_37
          obtain ⟨k, hk, rfl⟩ := ix_of h_37.1 h_37.2 (by omega)
          refine V_iload_n (pc := 43) C 2 dX10_told_43 rfl rfl ?_
          refine V_iconst (v := 4) (pc := 44) C dX10_told_44 (by decide) ?_
          refine V_icmp_ge (tgt := 96) (pc := 45) C dX10_told_45 (by decide) (fun _ => ?_) (fun h => absurd (by decide) h)
          refine V_iload_n (pc := 96) C 2 dX10_told_96 rfl rfl ?_
          refine V_bipush (v := 7) (pc := 97) C dX10_told_97 (by decide) ?_
          refine V_icmp_ge (tgt := 145) (pc := 99) C dX10_told_99 (by decide) (fun _ => ?_) (fun h => absurd (by decide) h)
          refine V_iload_n (pc := 145) C 2 dX10_told_145 rfl rfl ?_
          refine V_bipush (v := 9) (pc := 146) C dX10_told_146 (by decide) ?_
          refine V_icmp_ge (tgt := 173) (pc := 148) C dX10_told_148 (by decide) (fun h => absurd h (by decide)) (fun _ => ?_)
          refine V_iload_n (pc := 151) C 2 dX10_told_151 rfl rfl ?_
          refine V_bipush (v := 7) (pc := 152) C dX10_told_152 (by decide) ?_
          refine V_icmp_ne (tgt := 166) (pc := 154) C dX10_told_154 (by decide) (fun h => absurd (by decide) h) (fun _ => ?_)
          refine V_aload_n (pc := 157) C 0 dX10_told_157 rfl rfl ?_
          refine get_X10_38 (pc := 158) C (wg hG (by decide) (by decide)) dX10_told_158 ?_
          refine V_iload_n (pc := 161) C 1 dX10_told_161 rfl rfl ?_
          refine V_iald (pc := 162) C (k) rfl (by omega) (Nat.le_of_ble_eq_true rfl) (wg hG (by decide) (by decide)) wF_39 dX10_told_162 ?_
          refine V_goto (tgt := 172) (pc := 163) C dX10_told_163 (by decide) ?_
          refine V_iret (pc := 172) C hr hlk dX10_told_172 ⟨_, rfl, ?_⟩
          rw [kW (by decide), if_pos h_37, nI_clamp (by omega)]
          exact ⟨(c4.2.2 k (by omega)).2.1, cK.rf, h.keep⟩
        · have h_37 := bJ_0.mp h_37
          refine V_bipush (v := -2) (pc := 40) C dX10_told_40 (by decide) ?_
          refine V_iret (pc := 42) C hr hlk dX10_told_42 ⟨_, rfl, ?_⟩
          rw [kW (by decide), if_neg h_37]
          exact ⟨rfl, cK.rf, h.keep⟩
    · rw [show nI 8 = 8 from rfl] at *
      clear hw1
      refine Ctr.of (lv0 := [(0, _), (1, _), (2, _)]) (by decide) (Nat.le_of_ble_eq_true rfl) rfl ?_
      intro p e s m args below meth c C hr hlk _
      have C : CX p s m args c cX10_told 3 "CostsAgeModel" D cy ad G (wA ad G) (Rm d) d 0 0 := C
      refine V_iload_n (pc := 0) C 2 dX10_told_0 rfl rfl ?_
      refine V_i2l (pc := 1) C dX10_told_1 ?_
      refine V_lconst (v := 0) (pc := 2) C dX10_told_2 (by decide) ?_
      refine V_ldc2 (pc := 3) C dX10_told_3 qk_X10_139 ?_
      refine call_X10_106 (pc := 6) C (c_in (d := d - 1) M _ 0 10 (by decide) (by decide)) (by omega) (Nat.le_of_ble_eq_true rfl) dX10_told_6 (fun x_6 M_6 h_6 => ?_)
      obtain ⟨e_6, rfl⟩ := h_6
      have e_6 := e_6.symm
      subst e_6
      refine V_if_eq (tgt := 40) (pc := 9) C dX10_told_9 (by decide) (fun h_9 => ?_) (fun h_9 => ?_)
      · have h_9 := bJ_0.mp h_9
        exact absurd hw h_9
      · have h_9 := bJ_1.mp h_9
        skip
        refine V_iload_n (pc := 12) C 2 dX10_told_12 rfl rfl ?_
        refine V_bipush (v := 7) (pc := 13) C dX10_told_13 (by decide) ?_
        refine V_icmp_ge (tgt := 26) (pc := 15) C dX10_told_15 (by decide) (fun _ => ?_) (fun h => absurd (by decide) h)
        refine V_iload_n (pc := 26) C 2 dX10_told_26 rfl rfl ?_
        refine V_bipush (v := 7) (pc := 27) C dX10_told_27 (by decide) ?_
        refine V_icmp_lt (tgt := 43) (pc := 29) C dX10_told_29 (by decide) (fun h => absurd h (by decide)) (fun _ => ?_)
        refine V_aload_n (pc := 32) C 0 dX10_told_32 rfl rfl ?_
        refine V_iload_n (pc := 33) C 1 dX10_told_33 rfl rfl ?_
        refine call_X10_128 (pc := 34) C (c_X10_isThing (d := d - 1) hG (by omega) M c4.1.2 ht7 i) (by omega) (wg hG (by decide) (by decide)) (Nat.le_of_ble_eq_true rfl) dX10_told_34 (fun x_34 M_34 h_34 => ?_)
        obtain ⟨e_34, rfl⟩ := h_34
        have e_34 := e_34.symm
        subst e_34
        refine V_if_ne (tgt := 43) (pc := 37) C dX10_told_37 (by decide) (fun h_37 => ?_) (fun h_37 => ?_)
        · have h_37 := bJ_1.mp h_37
          obtain ⟨k, hk, rfl⟩ := ix_of h_37.1 h_37.2 (by omega)
          refine V_iload_n (pc := 43) C 2 dX10_told_43 rfl rfl ?_
          refine V_iconst (v := 4) (pc := 44) C dX10_told_44 (by decide) ?_
          refine V_icmp_ge (tgt := 96) (pc := 45) C dX10_told_45 (by decide) (fun _ => ?_) (fun h => absurd (by decide) h)
          refine V_iload_n (pc := 96) C 2 dX10_told_96 rfl rfl ?_
          refine V_bipush (v := 7) (pc := 97) C dX10_told_97 (by decide) ?_
          refine V_icmp_ge (tgt := 145) (pc := 99) C dX10_told_99 (by decide) (fun _ => ?_) (fun h => absurd (by decide) h)
          refine V_iload_n (pc := 145) C 2 dX10_told_145 rfl rfl ?_
          refine V_bipush (v := 9) (pc := 146) C dX10_told_146 (by decide) ?_
          refine V_icmp_ge (tgt := 173) (pc := 148) C dX10_told_148 (by decide) (fun h => absurd h (by decide)) (fun _ => ?_)
          refine V_iload_n (pc := 151) C 2 dX10_told_151 rfl rfl ?_
          refine V_bipush (v := 7) (pc := 152) C dX10_told_152 (by decide) ?_
          refine V_icmp_ne (tgt := 166) (pc := 154) C dX10_told_154 (by decide) (fun _ => ?_) (fun h => absurd h (by decide))
          refine V_aload_n (pc := 166) C 0 dX10_told_166 rfl rfl ?_
          refine get_X10_41 (pc := 167) C (wg hG (by decide) (by decide)) dX10_told_167 ?_
          refine V_iload_n (pc := 170) C 1 dX10_told_170 rfl rfl ?_
          refine V_iald (pc := 171) C (k) rfl (by omega) (Nat.le_of_ble_eq_true rfl) (wg hG (by decide) (by decide)) wF_40 dX10_told_171 ?_
          refine V_iret (pc := 172) C hr hlk dX10_told_172 ⟨_, rfl, ?_⟩
          rw [kW (by decide), if_pos h_37, nI_clamp (by omega)]
          exact ⟨(c4.2.2 k (by omega)).2.2.1, cK.rf, h.keep⟩
        · have h_37 := bJ_0.mp h_37
          refine V_bipush (v := -2) (pc := 40) C dX10_told_40 (by decide) ?_
          refine V_iret (pc := 42) C hr hlk dX10_told_42 ⟨_, rfl, ?_⟩
          rw [kW (by decide), if_neg h_37]
          exact ⟨rfl, cK.rf, h.keep⟩
    · rw [show nI 9 = 9 from rfl] at *
      clear hw1
      refine Ctr.of (lv0 := [(0, _), (1, _), (2, _)]) (by decide) (Nat.le_of_ble_eq_true rfl) rfl ?_
      intro p e s m args below meth c C hr hlk _
      have C : CX p s m args c cX10_told 3 "CostsAgeModel" D cy ad G (wA ad G) (Rm d) d 0 0 := C
      refine V_iload_n (pc := 0) C 2 dX10_told_0 rfl rfl ?_
      refine V_i2l (pc := 1) C dX10_told_1 ?_
      refine V_lconst (v := 0) (pc := 2) C dX10_told_2 (by decide) ?_
      refine V_ldc2 (pc := 3) C dX10_told_3 qk_X10_139 ?_
      refine call_X10_106 (pc := 6) C (c_in (d := d - 1) M _ 0 10 (by decide) (by decide)) (by omega) (Nat.le_of_ble_eq_true rfl) dX10_told_6 (fun x_6 M_6 h_6 => ?_)
      obtain ⟨e_6, rfl⟩ := h_6
      have e_6 := e_6.symm
      subst e_6
      refine V_if_eq (tgt := 40) (pc := 9) C dX10_told_9 (by decide) (fun h_9 => ?_) (fun h_9 => ?_)
      · have h_9 := bJ_0.mp h_9
        exact absurd hw h_9
      · have h_9 := bJ_1.mp h_9
        skip
        refine V_iload_n (pc := 12) C 2 dX10_told_12 rfl rfl ?_
        refine V_bipush (v := 7) (pc := 13) C dX10_told_13 (by decide) ?_
        refine V_icmp_ge (tgt := 26) (pc := 15) C dX10_told_15 (by decide) (fun _ => ?_) (fun h => absurd (by decide) h)
        refine V_iload_n (pc := 26) C 2 dX10_told_26 rfl rfl ?_
        refine V_bipush (v := 7) (pc := 27) C dX10_told_27 (by decide) ?_
        refine V_icmp_lt (tgt := 43) (pc := 29) C dX10_told_29 (by decide) (fun h => absurd h (by decide)) (fun _ => ?_)
        refine V_aload_n (pc := 32) C 0 dX10_told_32 rfl rfl ?_
        refine V_iload_n (pc := 33) C 1 dX10_told_33 rfl rfl ?_
        refine call_X10_128 (pc := 34) C (c_X10_isThing (d := d - 1) hG (by omega) M c4.1.2 ht7 i) (by omega) (wg hG (by decide) (by decide)) (Nat.le_of_ble_eq_true rfl) dX10_told_34 (fun x_34 M_34 h_34 => ?_)
        obtain ⟨e_34, rfl⟩ := h_34
        have e_34 := e_34.symm
        subst e_34
        refine V_if_ne (tgt := 43) (pc := 37) C dX10_told_37 (by decide) (fun h_37 => ?_) (fun h_37 => ?_)
        · have h_37 := bJ_1.mp h_37
          obtain ⟨k, hk, rfl⟩ := ix_of h_37.1 h_37.2 (by omega)
          refine V_iload_n (pc := 43) C 2 dX10_told_43 rfl rfl ?_
          refine V_iconst (v := 4) (pc := 44) C dX10_told_44 (by decide) ?_
          refine V_icmp_ge (tgt := 96) (pc := 45) C dX10_told_45 (by decide) (fun _ => ?_) (fun h => absurd (by decide) h)
          refine V_iload_n (pc := 96) C 2 dX10_told_96 rfl rfl ?_
          refine V_bipush (v := 7) (pc := 97) C dX10_told_97 (by decide) ?_
          refine V_icmp_ge (tgt := 145) (pc := 99) C dX10_told_99 (by decide) (fun _ => ?_) (fun h => absurd (by decide) h)
          refine V_iload_n (pc := 145) C 2 dX10_told_145 rfl rfl ?_
          refine V_bipush (v := 9) (pc := 146) C dX10_told_146 (by decide) ?_
          refine V_icmp_ge (tgt := 173) (pc := 148) C dX10_told_148 (by decide) (fun _ => ?_) (fun h => absurd (by decide) h)
          refine V_iload_n (pc := 173) C 2 dX10_told_173 rfl rfl ?_
          refine V_bipush (v := 9) (pc := 174) C dX10_told_174 (by decide) ?_
          refine V_icmp_ne (tgt := 188) (pc := 176) C dX10_told_176 (by decide) (fun h => absurd (by decide) h) (fun _ => ?_)
          refine V_aload_n (pc := 179) C 0 dX10_told_179 rfl rfl ?_
          refine get_X10_44 (pc := 180) C (wg hG (by decide) (by decide)) dX10_told_180 ?_
          refine V_iload_n (pc := 183) C 1 dX10_told_183 rfl rfl ?_
          refine V_iald (pc := 184) C (k) rfl (by omega) (Nat.le_of_ble_eq_true rfl) (wg hG (by decide) (by decide)) wF_41 dX10_told_184 ?_
          refine V_goto (tgt := 196) (pc := 185) C dX10_told_185 (by decide) ?_
          refine V_iret (pc := 196) C hr hlk dX10_told_196 ⟨_, rfl, ?_⟩
          rw [kW (by decide), if_pos h_37, nI_clamp (by omega)]
          exact ⟨(c4.2.2 k (by omega)).2.2.2, cK.rf, h.keep⟩
        · have h_37 := bJ_0.mp h_37
          refine V_bipush (v := -2) (pc := 40) C dX10_told_40 (by decide) ?_
          refine V_iret (pc := 42) C hr hlk dX10_told_42 ⟨_, rfl, ?_⟩
          rw [kW (by decide), if_neg h_37]
          exact ⟨rfl, cK.rf, h.keep⟩
    · rw [show nI 10 = 10 from rfl] at *
      clear hw1
      refine Ctr.of (lv0 := [(0, _), (1, _), (2, _)]) (by decide) (Nat.le_of_ble_eq_true rfl) rfl ?_
      intro p e s m args below meth c C hr hlk _
      have C : CX p s m args c cX10_told 3 "CostsAgeModel" D cy ad G (wA ad G) (Rm d) d 0 0 := C
      refine V_iload_n (pc := 0) C 2 dX10_told_0 rfl rfl ?_
      refine V_i2l (pc := 1) C dX10_told_1 ?_
      refine V_lconst (v := 0) (pc := 2) C dX10_told_2 (by decide) ?_
      refine V_ldc2 (pc := 3) C dX10_told_3 qk_X10_139 ?_
      refine call_X10_106 (pc := 6) C (c_in (d := d - 1) M _ 0 10 (by decide) (by decide)) (by omega) (Nat.le_of_ble_eq_true rfl) dX10_told_6 (fun x_6 M_6 h_6 => ?_)
      obtain ⟨e_6, rfl⟩ := h_6
      have e_6 := e_6.symm
      subst e_6
      refine V_if_eq (tgt := 40) (pc := 9) C dX10_told_9 (by decide) (fun h_9 => ?_) (fun h_9 => ?_)
      · have h_9 := bJ_0.mp h_9
        exact absurd hw h_9
      · have h_9 := bJ_1.mp h_9
        skip
        refine V_iload_n (pc := 12) C 2 dX10_told_12 rfl rfl ?_
        refine V_bipush (v := 7) (pc := 13) C dX10_told_13 (by decide) ?_
        refine V_icmp_ge (tgt := 26) (pc := 15) C dX10_told_15 (by decide) (fun _ => ?_) (fun h => absurd (by decide) h)
        refine V_iload_n (pc := 26) C 2 dX10_told_26 rfl rfl ?_
        refine V_bipush (v := 7) (pc := 27) C dX10_told_27 (by decide) ?_
        refine V_icmp_lt (tgt := 43) (pc := 29) C dX10_told_29 (by decide) (fun h => absurd h (by decide)) (fun _ => ?_)
        refine V_aload_n (pc := 32) C 0 dX10_told_32 rfl rfl ?_
        refine V_iload_n (pc := 33) C 1 dX10_told_33 rfl rfl ?_
        refine call_X10_128 (pc := 34) C (c_X10_isThing (d := d - 1) hG (by omega) M c4.1.2 ht7 i) (by omega) (wg hG (by decide) (by decide)) (Nat.le_of_ble_eq_true rfl) dX10_told_34 (fun x_34 M_34 h_34 => ?_)
        obtain ⟨e_34, rfl⟩ := h_34
        have e_34 := e_34.symm
        subst e_34
        refine V_if_ne (tgt := 43) (pc := 37) C dX10_told_37 (by decide) (fun h_37 => ?_) (fun h_37 => ?_)
        · have h_37 := bJ_1.mp h_37
          obtain ⟨k, hk, rfl⟩ := ix_of h_37.1 h_37.2 (by omega)
          refine V_iload_n (pc := 43) C 2 dX10_told_43 rfl rfl ?_
          refine V_iconst (v := 4) (pc := 44) C dX10_told_44 (by decide) ?_
          refine V_icmp_ge (tgt := 96) (pc := 45) C dX10_told_45 (by decide) (fun _ => ?_) (fun h => absurd (by decide) h)
          refine V_iload_n (pc := 96) C 2 dX10_told_96 rfl rfl ?_
          refine V_bipush (v := 7) (pc := 97) C dX10_told_97 (by decide) ?_
          refine V_icmp_ge (tgt := 145) (pc := 99) C dX10_told_99 (by decide) (fun _ => ?_) (fun h => absurd (by decide) h)
          refine V_iload_n (pc := 145) C 2 dX10_told_145 rfl rfl ?_
          refine V_bipush (v := 9) (pc := 146) C dX10_told_146 (by decide) ?_
          refine V_icmp_ge (tgt := 173) (pc := 148) C dX10_told_148 (by decide) (fun _ => ?_) (fun h => absurd (by decide) h)
          refine V_iload_n (pc := 173) C 2 dX10_told_173 rfl rfl ?_
          refine V_bipush (v := 9) (pc := 174) C dX10_told_174 (by decide) ?_
          refine V_icmp_ne (tgt := 188) (pc := 176) C dX10_told_176 (by decide) (fun _ => ?_) (fun h => absurd h (by decide))
          refine V_aload_n (pc := 188) C 0 dX10_told_188 rfl rfl ?_
          refine get_X10_113 (pc := 189) C (wg hG (by decide) (by decide)) dX10_told_189 ?_
          refine V_iload_n (pc := 192) C 1 dX10_told_192 rfl rfl ?_
          refine V_ishr (pc := 193) C dX10_told_193 ?_
          refine V_iconst (v := 1) (pc := 194) C dX10_told_194 (by decide) ?_
          refine V_iand (pc := 195) C dX10_told_195 ?_
          refine V_iret (pc := 196) C hr hlk dX10_told_196 ⟨_, rfl, ?_⟩
          rw [kW (by decide), if_pos h_37, nI_clamp (by omega)]
          refine ⟨?_, cK.rf, h.keep⟩
          rw [c4.2.1.1]
          rfl
        · have h_37 := bJ_0.mp h_37
          refine V_bipush (v := -2) (pc := 40) C dX10_told_40 (by decide) ?_
          refine V_iret (pc := 42) C hr hlk dX10_told_42 ⟨_, rfl, ?_⟩
          rw [kW (by decide), if_neg h_37]
          exact ⟨rfl, cK.rf, h.keep⟩
  · rw [kn hw]
    refine Ctr.of (lv0 := [(0, _), (1, _), (2, _)]) (by decide) (Nat.le_of_ble_eq_true rfl) rfl ?_
    intro p e s m args below meth c C hr hlk _
    have C : CX p s m args c cX10_told 3 "CostsAgeModel" D cy ad G (wA ad G) (Rm d) d 0 0 := C
    refine V_iload_n (pc := 0) C 2 dX10_told_0 rfl rfl ?_
    refine V_i2l (pc := 1) C dX10_told_1 ?_
    refine V_lconst (v := 0) (pc := 2) C dX10_told_2 (by decide) ?_
    refine V_ldc2 (pc := 3) C dX10_told_3 qk_X10_139 ?_
    refine call_X10_106 (pc := 6) C (c_in (d := d - 1) M what 0 10 (by decide) (by decide)) (by omega) (Nat.le_of_ble_eq_true rfl) dX10_told_6 (fun x_6 M_6 h_6 => ?_)
    obtain ⟨e_6, rfl⟩ := h_6
    have e_6 := e_6.symm
    subst e_6
    refine V_if_eq (tgt := 40) (pc := 9) C dX10_told_9 (by decide) (fun h_9 => ?_) (fun h_9 => ?_)
    · have h_9 := bJ_0.mp h_9
      refine V_bipush (v := -2) (pc := 40) C dX10_told_40 (by decide) ?_
      refine V_iret (pc := 42) C hr hlk dX10_told_42 ⟨_, rfl, ?_⟩
      exact ⟨rfl, cK.rf, h.keep⟩
    · have h_9 := bJ_1.mp h_9
      exact absurd h_9 hw
theorem ifc {P Q : Prop} {i : Decidable P} {j : Decidable Q} (h : P ↔ Q) {a b : Int32} : @ite _ P i a b = @ite _ Q j a b := by
  by_cases hp : P
  · rw [if_pos hp, if_pos (h.mp hp)]
  · rw [if_neg hp, if_neg (fun q => hp (h.mpr q))]
theorem qf_c {P Q : Prop} {i : Decidable P} {j : Decidable Q} (h : P ↔ Q) {a b : Int32} {Qf : Int32 → wS → Prop} {M : wS} (hQ : Qf (@ite _ P i a b) M) : Qf (@ite _ Q j a b) M := by
  rw [← ifc h]
  exact hQ
/-- who is over whom -/
def ovr (v : Int32) : Int32 := if v = 0 then -1 else if v = 1 ∨ v = 2 then 0 else if v = 5 then 2 else 1
theorem c_X10_over (M : wS) (v : Int32) : Ctr l D cy ad G d yX10_over cX10_over 1 (some .int) [.int v] M (rI fun x M' => M' = M ∧ x = ovr v) := by
  refine Ctr.of (lv0 := [(0, _)]) (by decide) (Nat.le_of_ble_eq_true rfl) rfl ?_
  intro p e s m args below meth c C hr hlk _
  have C : CX p s m args c cX10_over 1 "CostsAgeModel" D cy ad G (wA ad G) (Rm d) d 0 0 := C
  refine V_iload_n (pc := 0) C 0 dX10_over_0 rfl rfl ?_
  refine V_if_ne (tgt := 8) (pc := 1) C dX10_over_1 (by decide) (fun h_1 => ?_) (fun h_1 => ?_)
  · refine V_iload_n (pc := 8) C 0 dX10_over_8 rfl rfl ?_
    refine V_iconst (v := 1) (pc := 9) C dX10_over_9 (by decide) ?_
    refine V_icmp_eq (tgt := 18) (pc := 10) C dX10_over_10 (by decide) (fun h_10 => ?_) (fun h_10 => ?_)
    · refine V_iconst (v := 0) (pc := 18) C dX10_over_18 (by decide) ?_
      refine V_goto (tgt := 32) (pc := 19) C dX10_over_19 (by decide) ?_
      refine V_iret (pc := 32) C hr hlk dX10_over_32 ⟨_, rfl, ?_⟩
      first | exact ⟨rfl, by rw [ovr, if_pos h_1]⟩ | exact ⟨rfl, by rw [ovr, if_neg h_1, if_pos (Or.inl h_10)]⟩ | exact ⟨rfl, by rw [ovr, if_neg h_1, if_pos (Or.inr h_15)]⟩ | exact ⟨rfl, by rw [ovr, if_neg h_1, if_neg (fun e => e.elim h_10 h_15), if_pos h_24]⟩ | exact ⟨rfl, by rw [ovr, if_neg h_1, if_neg (fun e => e.elim h_10 h_15), if_neg h_24]⟩
    · refine V_iload_n (pc := 13) C 0 dX10_over_13 rfl rfl ?_
      refine V_iconst (v := 2) (pc := 14) C dX10_over_14 (by decide) ?_
      refine V_icmp_ne (tgt := 22) (pc := 15) C dX10_over_15 (by decide) (fun h_15 => ?_) (fun h_15 => ?_)
      · refine V_iload_n (pc := 22) C 0 dX10_over_22 rfl rfl ?_
        refine V_iconst (v := 5) (pc := 23) C dX10_over_23 (by decide) ?_
        refine V_icmp_ne (tgt := 31) (pc := 24) C dX10_over_24 (by decide) (fun h_24 => ?_) (fun h_24 => ?_)
        · refine V_iconst (v := 1) (pc := 31) C dX10_over_31 (by decide) ?_
          refine V_iret (pc := 32) C hr hlk dX10_over_32 ⟨_, rfl, ?_⟩
          first | exact ⟨rfl, by rw [ovr, if_pos h_1]⟩ | exact ⟨rfl, by rw [ovr, if_neg h_1, if_pos (Or.inl h_10)]⟩ | exact ⟨rfl, by rw [ovr, if_neg h_1, if_pos (Or.inr h_15)]⟩ | exact ⟨rfl, by rw [ovr, if_neg h_1, if_neg (fun e => e.elim h_10 h_15), if_pos h_24]⟩ | exact ⟨rfl, by rw [ovr, if_neg h_1, if_neg (fun e => e.elim h_10 h_15), if_neg h_24]⟩
        · refine V_iconst (v := 2) (pc := 27) C dX10_over_27 (by decide) ?_
          refine V_goto (tgt := 32) (pc := 28) C dX10_over_28 (by decide) ?_
          refine V_iret (pc := 32) C hr hlk dX10_over_32 ⟨_, rfl, ?_⟩
          first | exact ⟨rfl, by rw [ovr, if_pos h_1]⟩ | exact ⟨rfl, by rw [ovr, if_neg h_1, if_pos (Or.inl h_10)]⟩ | exact ⟨rfl, by rw [ovr, if_neg h_1, if_pos (Or.inr h_15)]⟩ | exact ⟨rfl, by rw [ovr, if_neg h_1, if_neg (fun e => e.elim h_10 h_15), if_pos h_24]⟩ | exact ⟨rfl, by rw [ovr, if_neg h_1, if_neg (fun e => e.elim h_10 h_15), if_neg h_24]⟩
      · refine V_iconst (v := 0) (pc := 18) C dX10_over_18 (by decide) ?_
        refine V_goto (tgt := 32) (pc := 19) C dX10_over_19 (by decide) ?_
        refine V_iret (pc := 32) C hr hlk dX10_over_32 ⟨_, rfl, ?_⟩
        first | exact ⟨rfl, by rw [ovr, if_pos h_1]⟩ | exact ⟨rfl, by rw [ovr, if_neg h_1, if_pos (Or.inl h_10)]⟩ | exact ⟨rfl, by rw [ovr, if_neg h_1, if_pos (Or.inr h_15)]⟩ | exact ⟨rfl, by rw [ovr, if_neg h_1, if_neg (fun e => e.elim h_10 h_15), if_pos h_24]⟩ | exact ⟨rfl, by rw [ovr, if_neg h_1, if_neg (fun e => e.elim h_10 h_15), if_neg h_24]⟩
  · refine V_iconst (v := -1) (pc := 4) C dX10_over_4 (by decide) ?_
    refine V_goto (tgt := 32) (pc := 5) C dX10_over_5 (by decide) ?_
    refine V_iret (pc := 32) C hr hlk dX10_over_32 ⟨_, rfl, ?_⟩
    first | exact ⟨rfl, by rw [ovr, if_pos h_1]⟩ | exact ⟨rfl, by rw [ovr, if_neg h_1, if_pos (Or.inl h_10)]⟩ | exact ⟨rfl, by rw [ovr, if_neg h_1, if_pos (Or.inr h_15)]⟩ | exact ⟨rfl, by rw [ovr, if_neg h_1, if_neg (fun e => e.elim h_10 h_15), if_pos h_24]⟩ | exact ⟨rfl, by rw [ovr, if_neg h_1, if_neg (fun e => e.elim h_10 h_15), if_neg h_24]⟩
theorem lk_X10_taken_m {p : Program} {e : Env} {s : State} {m : MethodId} {args : Array Value} {below : List Frame} {meth : Method} {c : Code} (C : CX p s m args c cX10_taken 4 "CostsAgeModel" D cy ad G (wA ad G) (Rm d) d 0 0) (hr : meth.sig.returnType = (some .int)) (hlk : meth.locks = false) (hG : 56 ≤ G) (hd : 1 ≤ d) {M : wS} {b : Nat} (hb : b < 7) {w : Int32} (hw : 0 ≤ w ∧ w ≤ 5) (Qf : Int32 → wS → Prop) (hQ : Qf (if False then M.1 38 0 b else -13) M) : V p l e (Rm d) s m args below meth c 4 D cy ad G (wA ad G) 0 0 (MQ below (wQ D cy ad G (rI Qf)) args s 0 0 (wA ad G)) 33 [(0, .ref (ad 30 0)), (1, .int (nI b)), (2, .int w), (3, .int (-1))] [] M := by
  have hne : ¬ (-1 : Int32) = w := fun e => by rw [← e] at hw; exact absurd hw.1 (by decide)
  refine V_iload_n (pc := 33) C 3 dX10_taken_33 rfl rfl ?_
  refine V_iconst (v := -1) (pc := 34) C dX10_taken_34 (by decide) ?_
  refine V_icmp_eq (tgt := 51) (pc := 35) C dX10_taken_35 (by decide) (fun _ => ?_) (fun h => absurd (by decide) h)
  refine V_iload_n (pc := 51) C 3 dX10_taken_51 rfl rfl ?_
  refine V_iload_n (pc := 52) C 2 dX10_taken_52 rfl rfl ?_
  refine V_icmp_ne (tgt := 65) (pc := 53) C dX10_taken_53 (by decide) (fun h_53 => ?_) (fun h_53 => ?_)
  · refine V_bipush (v := -13) (pc := 65) C dX10_taken_65 (by decide) ?_
    refine V_iret (pc := 67) C hr hlk dX10_taken_67 ⟨_, rfl, ?_⟩
    rw [if_neg (fun e => e)] at hQ
    exact hQ
  · exact absurd h_53 hne
theorem lk_X10_taken_0 {p : Program} {e : Env} {s : State} {m : MethodId} {args : Array Value} {below : List Frame} {meth : Method} {c : Code} (C : CX p s m args c cX10_taken 4 "CostsAgeModel" D cy ad G (wA ad G) (Rm d) d 0 0) (hr : meth.sig.returnType = (some .int)) (hlk : meth.locks = false) (hG : 56 ≤ G) (hd : 1 ≤ d) {M : wS} {b : Nat} (hb : b < 7) {w : Int32} (hw : 0 ≤ w ∧ w ≤ 5) (Qf : Int32 → wS → Prop) (hQ : Qf (if w = 0 then M.1 38 0 b else -13) M) : V p l e (Rm d) s m args below meth c 4 D cy ad G (wA ad G) 0 0 (MQ below (wQ D cy ad G (rI Qf)) args s 0 0 (wA ad G)) 33 [(0, .ref (ad 30 0)), (1, .int (nI b)), (2, .int w), (3, .int (0))] [] M := by
  refine V_iload_n (pc := 33) C 3 dX10_taken_33 rfl rfl ?_
  refine V_iconst (v := -1) (pc := 34) C dX10_taken_34 (by decide) ?_
  refine V_icmp_eq (tgt := 51) (pc := 35) C dX10_taken_35 (by decide) (fun h => absurd h (by decide)) (fun _ => ?_)
  refine V_iload_n (pc := 38) C 3 dX10_taken_38 rfl rfl ?_
  refine V_iload_n (pc := 39) C 2 dX10_taken_39 rfl rfl ?_
  refine V_icmp_eq (tgt := 51) (pc := 40) C dX10_taken_40 (by decide) (fun h_40 => ?_) (fun h_40 => ?_)
  · rw [if_pos h_40.symm] at hQ
    refine V_iload_n (pc := 51) C 3 dX10_taken_51 rfl rfl ?_
    refine V_iload_n (pc := 52) C 2 dX10_taken_52 rfl rfl ?_
    refine V_icmp_ne (tgt := 65) (pc := 53) C dX10_taken_53 (by decide) (fun h_53 => ?_) (fun h_53 => ?_)
    · exact absurd h_40 h_53
    · refine V_aload_n (pc := 56) C 0 dX10_taken_56 rfl rfl ?_
      refine get_X10_35 (pc := 57) C (wg hG (by decide) (by decide)) dX10_taken_57 ?_
      refine V_iload_n (pc := 60) C 1 dX10_taken_60 rfl rfl ?_
      refine V_iald (pc := 61) C (b) rfl hb (Nat.le_of_ble_eq_true rfl) (wg hG (by decide) (by decide)) wF_38 dX10_taken_61 ?_
      refine V_goto (tgt := 67) (pc := 62) C dX10_taken_62 (by decide) ?_
      refine V_iret (pc := 67) C hr hlk dX10_taken_67 ⟨_, rfl, ?_⟩
      exact hQ
  · refine V_iload_n (pc := 43) C 3 dX10_taken_43 rfl rfl ?_
    refine call_X10_362 (pc := 44) C (c_X10_over (d := d - 1) M _) (by omega) (Nat.le_of_ble_eq_true rfl) dX10_taken_44 (fun x_44 M_44 h_44 => ?_)
    obtain ⟨e_44, rfl⟩ := h_44
    have e_44 := e_44.symm
    subst e_44
    refine Vs_istore_n (lv' := [(0, _), (1, _), (2, _), (3, _)]) (pc := 47) C dX10_taken_47 rfl (by decide) rfl rfl ?_
    refine V_goto (tgt := 33) (pc := 48) C dX10_taken_48 (by decide) ?_
    rw [show ovr 0 = -1 by decide]
    exact lk_X10_taken_m C hr hlk hG hd hb hw _ (qf_c (⟨fun e => h_40 e.symm, fun e => e.elim⟩) hQ)
theorem lk_X10_taken_1 {p : Program} {e : Env} {s : State} {m : MethodId} {args : Array Value} {below : List Frame} {meth : Method} {c : Code} (C : CX p s m args c cX10_taken 4 "CostsAgeModel" D cy ad G (wA ad G) (Rm d) d 0 0) (hr : meth.sig.returnType = (some .int)) (hlk : meth.locks = false) (hG : 56 ≤ G) (hd : 1 ≤ d) {M : wS} {b : Nat} (hb : b < 7) {w : Int32} (hw : 0 ≤ w ∧ w ≤ 5) (Qf : Int32 → wS → Prop) (hQ : Qf (if w = 1 ∨ w = 0 then M.1 38 0 b else -13) M) : V p l e (Rm d) s m args below meth c 4 D cy ad G (wA ad G) 0 0 (MQ below (wQ D cy ad G (rI Qf)) args s 0 0 (wA ad G)) 33 [(0, .ref (ad 30 0)), (1, .int (nI b)), (2, .int w), (3, .int (1))] [] M := by
  refine V_iload_n (pc := 33) C 3 dX10_taken_33 rfl rfl ?_
  refine V_iconst (v := -1) (pc := 34) C dX10_taken_34 (by decide) ?_
  refine V_icmp_eq (tgt := 51) (pc := 35) C dX10_taken_35 (by decide) (fun h => absurd h (by decide)) (fun _ => ?_)
  refine V_iload_n (pc := 38) C 3 dX10_taken_38 rfl rfl ?_
  refine V_iload_n (pc := 39) C 2 dX10_taken_39 rfl rfl ?_
  refine V_icmp_eq (tgt := 51) (pc := 40) C dX10_taken_40 (by decide) (fun h_40 => ?_) (fun h_40 => ?_)
  · rw [if_pos (Or.inl h_40.symm)] at hQ
    refine V_iload_n (pc := 51) C 3 dX10_taken_51 rfl rfl ?_
    refine V_iload_n (pc := 52) C 2 dX10_taken_52 rfl rfl ?_
    refine V_icmp_ne (tgt := 65) (pc := 53) C dX10_taken_53 (by decide) (fun h_53 => ?_) (fun h_53 => ?_)
    · exact absurd h_40 h_53
    · refine V_aload_n (pc := 56) C 0 dX10_taken_56 rfl rfl ?_
      refine get_X10_35 (pc := 57) C (wg hG (by decide) (by decide)) dX10_taken_57 ?_
      refine V_iload_n (pc := 60) C 1 dX10_taken_60 rfl rfl ?_
      refine V_iald (pc := 61) C (b) rfl hb (Nat.le_of_ble_eq_true rfl) (wg hG (by decide) (by decide)) wF_38 dX10_taken_61 ?_
      refine V_goto (tgt := 67) (pc := 62) C dX10_taken_62 (by decide) ?_
      refine V_iret (pc := 67) C hr hlk dX10_taken_67 ⟨_, rfl, ?_⟩
      exact hQ
  · refine V_iload_n (pc := 43) C 3 dX10_taken_43 rfl rfl ?_
    refine call_X10_362 (pc := 44) C (c_X10_over (d := d - 1) M _) (by omega) (Nat.le_of_ble_eq_true rfl) dX10_taken_44 (fun x_44 M_44 h_44 => ?_)
    obtain ⟨e_44, rfl⟩ := h_44
    have e_44 := e_44.symm
    subst e_44
    refine Vs_istore_n (lv' := [(0, _), (1, _), (2, _), (3, _)]) (pc := 47) C dX10_taken_47 rfl (by decide) rfl rfl ?_
    refine V_goto (tgt := 33) (pc := 48) C dX10_taken_48 (by decide) ?_
    rw [show ovr 1 = 0 by decide]
    exact lk_X10_taken_0 C hr hlk hG hd hb hw _ (qf_c (⟨fun e => e.resolve_left (fun y => h_40 y.symm), Or.inr⟩) hQ)
theorem lk_X10_taken_2 {p : Program} {e : Env} {s : State} {m : MethodId} {args : Array Value} {below : List Frame} {meth : Method} {c : Code} (C : CX p s m args c cX10_taken 4 "CostsAgeModel" D cy ad G (wA ad G) (Rm d) d 0 0) (hr : meth.sig.returnType = (some .int)) (hlk : meth.locks = false) (hG : 56 ≤ G) (hd : 1 ≤ d) {M : wS} {b : Nat} (hb : b < 7) {w : Int32} (hw : 0 ≤ w ∧ w ≤ 5) (Qf : Int32 → wS → Prop) (hQ : Qf (if w = 2 ∨ w = 0 then M.1 38 0 b else -13) M) : V p l e (Rm d) s m args below meth c 4 D cy ad G (wA ad G) 0 0 (MQ below (wQ D cy ad G (rI Qf)) args s 0 0 (wA ad G)) 33 [(0, .ref (ad 30 0)), (1, .int (nI b)), (2, .int w), (3, .int (2))] [] M := by
  refine V_iload_n (pc := 33) C 3 dX10_taken_33 rfl rfl ?_
  refine V_iconst (v := -1) (pc := 34) C dX10_taken_34 (by decide) ?_
  refine V_icmp_eq (tgt := 51) (pc := 35) C dX10_taken_35 (by decide) (fun h => absurd h (by decide)) (fun _ => ?_)
  refine V_iload_n (pc := 38) C 3 dX10_taken_38 rfl rfl ?_
  refine V_iload_n (pc := 39) C 2 dX10_taken_39 rfl rfl ?_
  refine V_icmp_eq (tgt := 51) (pc := 40) C dX10_taken_40 (by decide) (fun h_40 => ?_) (fun h_40 => ?_)
  · rw [if_pos (Or.inl h_40.symm)] at hQ
    refine V_iload_n (pc := 51) C 3 dX10_taken_51 rfl rfl ?_
    refine V_iload_n (pc := 52) C 2 dX10_taken_52 rfl rfl ?_
    refine V_icmp_ne (tgt := 65) (pc := 53) C dX10_taken_53 (by decide) (fun h_53 => ?_) (fun h_53 => ?_)
    · exact absurd h_40 h_53
    · refine V_aload_n (pc := 56) C 0 dX10_taken_56 rfl rfl ?_
      refine get_X10_35 (pc := 57) C (wg hG (by decide) (by decide)) dX10_taken_57 ?_
      refine V_iload_n (pc := 60) C 1 dX10_taken_60 rfl rfl ?_
      refine V_iald (pc := 61) C (b) rfl hb (Nat.le_of_ble_eq_true rfl) (wg hG (by decide) (by decide)) wF_38 dX10_taken_61 ?_
      refine V_goto (tgt := 67) (pc := 62) C dX10_taken_62 (by decide) ?_
      refine V_iret (pc := 67) C hr hlk dX10_taken_67 ⟨_, rfl, ?_⟩
      exact hQ
  · refine V_iload_n (pc := 43) C 3 dX10_taken_43 rfl rfl ?_
    refine call_X10_362 (pc := 44) C (c_X10_over (d := d - 1) M _) (by omega) (Nat.le_of_ble_eq_true rfl) dX10_taken_44 (fun x_44 M_44 h_44 => ?_)
    obtain ⟨e_44, rfl⟩ := h_44
    have e_44 := e_44.symm
    subst e_44
    refine Vs_istore_n (lv' := [(0, _), (1, _), (2, _), (3, _)]) (pc := 47) C dX10_taken_47 rfl (by decide) rfl rfl ?_
    refine V_goto (tgt := 33) (pc := 48) C dX10_taken_48 (by decide) ?_
    rw [show ovr 2 = 0 by decide]
    exact lk_X10_taken_0 C hr hlk hG hd hb hw _ (qf_c (⟨fun e => e.resolve_left (fun y => h_40 y.symm), Or.inr⟩) hQ)
theorem lk_X10_taken_3 {p : Program} {e : Env} {s : State} {m : MethodId} {args : Array Value} {below : List Frame} {meth : Method} {c : Code} (C : CX p s m args c cX10_taken 4 "CostsAgeModel" D cy ad G (wA ad G) (Rm d) d 0 0) (hr : meth.sig.returnType = (some .int)) (hlk : meth.locks = false) (hG : 56 ≤ G) (hd : 1 ≤ d) {M : wS} {b : Nat} (hb : b < 7) {w : Int32} (hw : 0 ≤ w ∧ w ≤ 5) (Qf : Int32 → wS → Prop) (hQ : Qf (if w = 3 ∨ w = 1 ∨ w = 0 then M.1 38 0 b else -13) M) : V p l e (Rm d) s m args below meth c 4 D cy ad G (wA ad G) 0 0 (MQ below (wQ D cy ad G (rI Qf)) args s 0 0 (wA ad G)) 33 [(0, .ref (ad 30 0)), (1, .int (nI b)), (2, .int w), (3, .int (3))] [] M := by
  refine V_iload_n (pc := 33) C 3 dX10_taken_33 rfl rfl ?_
  refine V_iconst (v := -1) (pc := 34) C dX10_taken_34 (by decide) ?_
  refine V_icmp_eq (tgt := 51) (pc := 35) C dX10_taken_35 (by decide) (fun h => absurd h (by decide)) (fun _ => ?_)
  refine V_iload_n (pc := 38) C 3 dX10_taken_38 rfl rfl ?_
  refine V_iload_n (pc := 39) C 2 dX10_taken_39 rfl rfl ?_
  refine V_icmp_eq (tgt := 51) (pc := 40) C dX10_taken_40 (by decide) (fun h_40 => ?_) (fun h_40 => ?_)
  · rw [if_pos (Or.inl h_40.symm)] at hQ
    refine V_iload_n (pc := 51) C 3 dX10_taken_51 rfl rfl ?_
    refine V_iload_n (pc := 52) C 2 dX10_taken_52 rfl rfl ?_
    refine V_icmp_ne (tgt := 65) (pc := 53) C dX10_taken_53 (by decide) (fun h_53 => ?_) (fun h_53 => ?_)
    · exact absurd h_40 h_53
    · refine V_aload_n (pc := 56) C 0 dX10_taken_56 rfl rfl ?_
      refine get_X10_35 (pc := 57) C (wg hG (by decide) (by decide)) dX10_taken_57 ?_
      refine V_iload_n (pc := 60) C 1 dX10_taken_60 rfl rfl ?_
      refine V_iald (pc := 61) C (b) rfl hb (Nat.le_of_ble_eq_true rfl) (wg hG (by decide) (by decide)) wF_38 dX10_taken_61 ?_
      refine V_goto (tgt := 67) (pc := 62) C dX10_taken_62 (by decide) ?_
      refine V_iret (pc := 67) C hr hlk dX10_taken_67 ⟨_, rfl, ?_⟩
      exact hQ
  · refine V_iload_n (pc := 43) C 3 dX10_taken_43 rfl rfl ?_
    refine call_X10_362 (pc := 44) C (c_X10_over (d := d - 1) M _) (by omega) (Nat.le_of_ble_eq_true rfl) dX10_taken_44 (fun x_44 M_44 h_44 => ?_)
    obtain ⟨e_44, rfl⟩ := h_44
    have e_44 := e_44.symm
    subst e_44
    refine Vs_istore_n (lv' := [(0, _), (1, _), (2, _), (3, _)]) (pc := 47) C dX10_taken_47 rfl (by decide) rfl rfl ?_
    refine V_goto (tgt := 33) (pc := 48) C dX10_taken_48 (by decide) ?_
    rw [show ovr 3 = 1 by decide]
    exact lk_X10_taken_1 C hr hlk hG hd hb hw _ (qf_c (⟨fun e => e.resolve_left (fun y => h_40 y.symm), Or.inr⟩) hQ)
theorem lk_X10_taken_4 {p : Program} {e : Env} {s : State} {m : MethodId} {args : Array Value} {below : List Frame} {meth : Method} {c : Code} (C : CX p s m args c cX10_taken 4 "CostsAgeModel" D cy ad G (wA ad G) (Rm d) d 0 0) (hr : meth.sig.returnType = (some .int)) (hlk : meth.locks = false) (hG : 56 ≤ G) (hd : 1 ≤ d) {M : wS} {b : Nat} (hb : b < 7) {w : Int32} (hw : 0 ≤ w ∧ w ≤ 5) (Qf : Int32 → wS → Prop) (hQ : Qf (if w = 4 ∨ w = 1 ∨ w = 0 then M.1 38 0 b else -13) M) : V p l e (Rm d) s m args below meth c 4 D cy ad G (wA ad G) 0 0 (MQ below (wQ D cy ad G (rI Qf)) args s 0 0 (wA ad G)) 33 [(0, .ref (ad 30 0)), (1, .int (nI b)), (2, .int w), (3, .int (4))] [] M := by
  refine V_iload_n (pc := 33) C 3 dX10_taken_33 rfl rfl ?_
  refine V_iconst (v := -1) (pc := 34) C dX10_taken_34 (by decide) ?_
  refine V_icmp_eq (tgt := 51) (pc := 35) C dX10_taken_35 (by decide) (fun h => absurd h (by decide)) (fun _ => ?_)
  refine V_iload_n (pc := 38) C 3 dX10_taken_38 rfl rfl ?_
  refine V_iload_n (pc := 39) C 2 dX10_taken_39 rfl rfl ?_
  refine V_icmp_eq (tgt := 51) (pc := 40) C dX10_taken_40 (by decide) (fun h_40 => ?_) (fun h_40 => ?_)
  · rw [if_pos (Or.inl h_40.symm)] at hQ
    refine V_iload_n (pc := 51) C 3 dX10_taken_51 rfl rfl ?_
    refine V_iload_n (pc := 52) C 2 dX10_taken_52 rfl rfl ?_
    refine V_icmp_ne (tgt := 65) (pc := 53) C dX10_taken_53 (by decide) (fun h_53 => ?_) (fun h_53 => ?_)
    · exact absurd h_40 h_53
    · refine V_aload_n (pc := 56) C 0 dX10_taken_56 rfl rfl ?_
      refine get_X10_35 (pc := 57) C (wg hG (by decide) (by decide)) dX10_taken_57 ?_
      refine V_iload_n (pc := 60) C 1 dX10_taken_60 rfl rfl ?_
      refine V_iald (pc := 61) C (b) rfl hb (Nat.le_of_ble_eq_true rfl) (wg hG (by decide) (by decide)) wF_38 dX10_taken_61 ?_
      refine V_goto (tgt := 67) (pc := 62) C dX10_taken_62 (by decide) ?_
      refine V_iret (pc := 67) C hr hlk dX10_taken_67 ⟨_, rfl, ?_⟩
      exact hQ
  · refine V_iload_n (pc := 43) C 3 dX10_taken_43 rfl rfl ?_
    refine call_X10_362 (pc := 44) C (c_X10_over (d := d - 1) M _) (by omega) (Nat.le_of_ble_eq_true rfl) dX10_taken_44 (fun x_44 M_44 h_44 => ?_)
    obtain ⟨e_44, rfl⟩ := h_44
    have e_44 := e_44.symm
    subst e_44
    refine Vs_istore_n (lv' := [(0, _), (1, _), (2, _), (3, _)]) (pc := 47) C dX10_taken_47 rfl (by decide) rfl rfl ?_
    refine V_goto (tgt := 33) (pc := 48) C dX10_taken_48 (by decide) ?_
    rw [show ovr 4 = 1 by decide]
    exact lk_X10_taken_1 C hr hlk hG hd hb hw _ (qf_c (⟨fun e => e.resolve_left (fun y => h_40 y.symm), Or.inr⟩) hQ)
theorem lk_X10_taken_5 {p : Program} {e : Env} {s : State} {m : MethodId} {args : Array Value} {below : List Frame} {meth : Method} {c : Code} (C : CX p s m args c cX10_taken 4 "CostsAgeModel" D cy ad G (wA ad G) (Rm d) d 0 0) (hr : meth.sig.returnType = (some .int)) (hlk : meth.locks = false) (hG : 56 ≤ G) (hd : 1 ≤ d) {M : wS} {b : Nat} (hb : b < 7) {w : Int32} (hw : 0 ≤ w ∧ w ≤ 5) (Qf : Int32 → wS → Prop) (hQ : Qf (if w = 5 ∨ w = 2 ∨ w = 0 then M.1 38 0 b else -13) M) : V p l e (Rm d) s m args below meth c 4 D cy ad G (wA ad G) 0 0 (MQ below (wQ D cy ad G (rI Qf)) args s 0 0 (wA ad G)) 33 [(0, .ref (ad 30 0)), (1, .int (nI b)), (2, .int w), (3, .int (5))] [] M := by
  refine V_iload_n (pc := 33) C 3 dX10_taken_33 rfl rfl ?_
  refine V_iconst (v := -1) (pc := 34) C dX10_taken_34 (by decide) ?_
  refine V_icmp_eq (tgt := 51) (pc := 35) C dX10_taken_35 (by decide) (fun h => absurd h (by decide)) (fun _ => ?_)
  refine V_iload_n (pc := 38) C 3 dX10_taken_38 rfl rfl ?_
  refine V_iload_n (pc := 39) C 2 dX10_taken_39 rfl rfl ?_
  refine V_icmp_eq (tgt := 51) (pc := 40) C dX10_taken_40 (by decide) (fun h_40 => ?_) (fun h_40 => ?_)
  · rw [if_pos (Or.inl h_40.symm)] at hQ
    refine V_iload_n (pc := 51) C 3 dX10_taken_51 rfl rfl ?_
    refine V_iload_n (pc := 52) C 2 dX10_taken_52 rfl rfl ?_
    refine V_icmp_ne (tgt := 65) (pc := 53) C dX10_taken_53 (by decide) (fun h_53 => ?_) (fun h_53 => ?_)
    · exact absurd h_40 h_53
    · refine V_aload_n (pc := 56) C 0 dX10_taken_56 rfl rfl ?_
      refine get_X10_35 (pc := 57) C (wg hG (by decide) (by decide)) dX10_taken_57 ?_
      refine V_iload_n (pc := 60) C 1 dX10_taken_60 rfl rfl ?_
      refine V_iald (pc := 61) C (b) rfl hb (Nat.le_of_ble_eq_true rfl) (wg hG (by decide) (by decide)) wF_38 dX10_taken_61 ?_
      refine V_goto (tgt := 67) (pc := 62) C dX10_taken_62 (by decide) ?_
      refine V_iret (pc := 67) C hr hlk dX10_taken_67 ⟨_, rfl, ?_⟩
      exact hQ
  · refine V_iload_n (pc := 43) C 3 dX10_taken_43 rfl rfl ?_
    refine call_X10_362 (pc := 44) C (c_X10_over (d := d - 1) M _) (by omega) (Nat.le_of_ble_eq_true rfl) dX10_taken_44 (fun x_44 M_44 h_44 => ?_)
    obtain ⟨e_44, rfl⟩ := h_44
    have e_44 := e_44.symm
    subst e_44
    refine Vs_istore_n (lv' := [(0, _), (1, _), (2, _), (3, _)]) (pc := 47) C dX10_taken_47 rfl (by decide) rfl rfl ?_
    refine V_goto (tgt := 33) (pc := 48) C dX10_taken_48 (by decide) ?_
    rw [show ovr 5 = 2 by decide]
    exact lk_X10_taken_2 C hr hlk hG hd hb hw _ (qf_c (⟨fun e => e.resolve_left (fun y => h_40 y.symm), Or.inr⟩) hQ)
theorem pOf_tab : ∀ w, w < 6 → ((pOf (nI w) 6 0 = true ↔ nI w = 0) ∧ (pOf (nI w) 6 1 = true ↔ nI w = 1 ∨ nI w = 0) ∧ (pOf (nI w) 6 2 = true ↔ nI w = 2 ∨ nI w = 0) ∧ (pOf (nI w) 6 3 = true ↔ nI w = 3 ∨ nI w = 1 ∨ nI w = 0) ∧ (pOf (nI w) 6 4 = true ↔ nI w = 4 ∨ nI w = 1 ∨ nI w = 0) ∧ (pOf (nI w) 6 5 = true ↔ nI w = 5 ∨ nI w = 2 ∨ nI w = 0)) := by decide +kernel
theorem o_taken (hG : 56 ≤ G) (hd : 2 ≤ d) {M0 M : wS} {nb nt tc z bo r : Nat} (h : RR M0 M nb nt tc z bo r) (b w : Int32) : Ctr l D cy ad G d yX10_taken cX10_taken 4 (some .int) [.ref (ad 30 0), .int b, .int w] M (rI fun x M' => RO (kTaken M0 nb b w, M0) M x M') := by
  obtain ⟨c1, c2, c3, c4, -⟩ := id h
  have hb7 := c1.1.2
  refine Ctr.of (lv0 := [(0, _), (1, _), (2, _)]) (by decide) (Nat.le_of_ble_eq_true rfl) rfl ?_
  intro p e s m args below meth c C hr hlk _
  have C : CX p s m args c cX10_taken 4 "CostsAgeModel" D cy ad G (wA ad G) (Rm d) d 0 0 := C
  refine V_iload_n (pc := 0) C 2 dX10_taken_0 rfl rfl ?_
  refine V_i2l (pc := 1) C dX10_taken_1 ?_
  refine V_lconst (v := 0) (pc := 2) C dX10_taken_2 (by decide) ?_
  refine V_ldc2 (pc := 3) C dX10_taken_3 qk_X10_116 ?_
  refine call_X10_106 (pc := 6) C (c_in (d := d - 1) M w 0 5 (by decide) (by decide)) (by omega) (Nat.le_of_ble_eq_true rfl) dX10_taken_6 (fun x_6 M_6 h_6 => ?_)
  obtain ⟨e_6, rfl⟩ := h_6
  have e_6 := e_6.symm
  subst e_6
  refine V_if_ne (tgt := 15) (pc := 9) C dX10_taken_9 (by decide) (fun h_9 => ?_) (fun h_9 => ?_)
  · have h_9 := bJ_1.mp h_9
    refine V_aload_n (pc := 15) C 0 dX10_taken_15 rfl rfl ?_
    refine V_iload_n (pc := 16) C 1 dX10_taken_16 rfl rfl ?_
    refine call_X10_132 (pc := 17) C (c_X10_isBuyer (d := d - 1) hG (by omega) M c4.1.1 hb7 b) (by omega) (wg hG (by decide) (by decide)) (Nat.le_of_ble_eq_true rfl) dX10_taken_17 (fun x_17 M_17 h_17 => ?_)
    obtain ⟨e_17, rfl⟩ := h_17
    have e_17 := e_17.symm
    subst e_17
    refine V_if_ne (tgt := 26) (pc := 20) C dX10_taken_20 (by decide) (fun h_20 => ?_) (fun h_20 => ?_)
    · have h_20 := bJ_1.mp h_20
      obtain ⟨k, hk, rfl⟩ := ix_of h_20.1 h_20.2 (by omega)
      have hk7 : k < 7 := by omega
      have hkt : kTaken M0 nb (nI k) w = if pOf w 6 (M0.1 5 k 0) = true then M0.1 5 k 2 else -13 := by rw [kTaken, if_pos h_9, if_pos h_20, nI_clamp (by omega)]
      have hki := (c4.2.2 k hk7).1.1
      have hnu := (c4.2.2 k hk7).1.2.2.2.2
      obtain ⟨kd, hkd, ekd⟩ := what_lt (n := 5) (c3 k hk7).1 (by decide)
      obtain ⟨wn, hwn, rfl⟩ := what_lt (n := 5) h_9 (by decide)
      have htab := pOf_tab wn (by omega)
      refine V_aload_n (pc := 26) C 0 dX10_taken_26 rfl rfl ?_
      refine get_X10_23 (pc := 27) C (wg hG (by decide) (by decide)) dX10_taken_27 ?_
      refine V_iload_n (pc := 30) C 1 dX10_taken_30 rfl rfl ?_
      refine V_iald (pc := 31) C (k) rfl hk7 (Nat.le_of_ble_eq_true rfl) (wg hG (by decide) (by decide)) wF_34 dX10_taken_31 ?_
      rw [hki, ekd]
      refine Vs_istore_n (lv' := [(0, _), (1, _), (2, _), (3, _)]) (pc := 32) C dX10_taken_32 rfl (by decide) rfl rfl ?_
      have hc : kd = 0 ∨ kd = 1 ∨ kd = 2 ∨ kd = 3 ∨ kd = 4 ∨ kd = 5 := by omega
      rw [ekd, ← hnu] at hkt
      rcases hc with rfl | rfl | rfl | rfl | rfl | rfl
      · exact lk_X10_taken_0 C hr hlk hG (by omega) hk7 h_9 _ ⟨by simp only []; rw [hkt]; exact ifc htab.1.symm, cK.rf, h.keep⟩
      · exact lk_X10_taken_1 C hr hlk hG (by omega) hk7 h_9 _ ⟨by simp only []; rw [hkt]; exact ifc htab.2.1.symm, cK.rf, h.keep⟩
      · exact lk_X10_taken_2 C hr hlk hG (by omega) hk7 h_9 _ ⟨by simp only []; rw [hkt]; exact ifc htab.2.2.1.symm, cK.rf, h.keep⟩
      · exact lk_X10_taken_3 C hr hlk hG (by omega) hk7 h_9 _ ⟨by simp only []; rw [hkt]; exact ifc htab.2.2.2.1.symm, cK.rf, h.keep⟩
      · exact lk_X10_taken_4 C hr hlk hG (by omega) hk7 h_9 _ ⟨by simp only []; rw [hkt]; exact ifc htab.2.2.2.2.1.symm, cK.rf, h.keep⟩
      · exact lk_X10_taken_5 C hr hlk hG (by omega) hk7 h_9 _ ⟨by simp only []; rw [hkt]; exact ifc htab.2.2.2.2.2.symm, cK.rf, h.keep⟩
    · have h_20 := bJ_0.mp h_20
      refine V_bipush (v := -11) (pc := 23) C dX10_taken_23 (by decide) ?_
      refine V_iret (pc := 25) C hr hlk dX10_taken_25 ⟨_, rfl, ?_⟩
      exact ⟨by simp only []; rw [kTaken, if_pos h_9, if_neg h_20], cK.rf, h.keep⟩
  · have h_9 := bJ_0.mp h_9
    refine V_bipush (v := -2) (pc := 12) C dX10_taken_12 (by decide) ?_
    refine V_iret (pc := 14) C hr hlk dX10_taken_14 ⟨_, rfl, ?_⟩
    exact ⟨by simp only []; rw [kTaken, if_neg h_9], cK.rf, h.keep⟩
end S77
