section S75
variable {l : Launch} {D : va_G} {cy : Nat → ClassId} {ad : Nat → Nat → Nat} {G d : Nat}
theorem RR.age {M0 M : wS} {nb nt tc z bo r : Nat} (h : RR M0 M nb nt tc z bo r) {b : Nat} (v : Int32) (hv : 0 ≤ v ∧ v ≤ 99) : RR (mset M0 27 0 b v) (mset M 36 0 b v) nb nt tc z bo r := by
  obtain ⟨c1, c2, c3, c4, c5, c6, c7, c8, c9, c10⟩ := h
  refine ⟨c1.fr (fun g i k e => by repeat rw [mset_at, if_neg (by omega)]) (fun g i k e => by repeat rw [mset_at, if_neg (by omega)]), c2.fr (fun g i k e => by repeat rw [mset_at, if_neg (by omega)]), ?_, ?_, c5.fr (fun g i k e => by repeat rw [mset_at, if_neg (by omega)]) (fun g i k e => by repeat rw [mset_at, if_neg (by omega)]), c6.fr (fun g i k e => by repeat rw [mset_at, if_neg (by omega)]) (fun g i k e => by repeat rw [mset_at, if_neg (by omega)]), c7.fr (fun g i k e => by repeat rw [mset_at, if_neg (by omega)]) (fun g i k e => by repeat rw [mset_at, if_neg (by omega)]), c8.fr (fun g i k e => by repeat rw [mset_at, if_neg (by omega)]) (fun g i k e => by repeat rw [mset_at, if_neg (by omega)]), c9.fr (Nat.le_refl _) (Nat.le_refl _) (Nat.le_refl _) (fun g i k e => by repeat rw [mset_at, if_neg (by omega)]) (fun g i k e => by repeat rw [mset_at, if_neg (by omega)]), c10.fr (fun g i k e => by repeat rw [mset_at, if_neg (by omega)])⟩
  · intro k hk
    by_cases e : k = b
    · subst e
      have := c3 k hk
      simp [mset_at]
      exact ⟨this.1, this.2.1, this.2.2.1, hv, this.2.2.2.2⟩
    · have := c3 k hk
      simp [mset_at, e]
      exact this
  · refine ⟨⟨?_, ?_⟩, ?_, fun k hk => ?_⟩
    · simp [mset_at]; exact c4.1.1
    · simp [mset_at]; exact c4.1.2
    · simp [mset_at]; exact c4.2.1
    · have := c4.2.2 k hk
      by_cases e : k = b
      · subst e
        simp [mset_at]
        simp [this]
      · simp [mset_at, e]
        exact this
theorem RR.fee {M0 M : wS} {nb nt tc z bo r : Nat} (h : RR M0 M nb nt tc z bo r) {b : Nat} (v : Int32) (hv : 0 ≤ v ∧ v ≤ 99) : RR (mset M0 28 0 b v) (mset M 37 0 b v) nb nt tc z bo r := by
  obtain ⟨c1, c2, c3, c4, c5, c6, c7, c8, c9, c10⟩ := h
  refine ⟨c1.fr (fun g i k e => by repeat rw [mset_at, if_neg (by omega)]) (fun g i k e => by repeat rw [mset_at, if_neg (by omega)]), c2.fr (fun g i k e => by repeat rw [mset_at, if_neg (by omega)]), ?_, ?_, c5.fr (fun g i k e => by repeat rw [mset_at, if_neg (by omega)]) (fun g i k e => by repeat rw [mset_at, if_neg (by omega)]), c6.fr (fun g i k e => by repeat rw [mset_at, if_neg (by omega)]) (fun g i k e => by repeat rw [mset_at, if_neg (by omega)]), c7.fr (fun g i k e => by repeat rw [mset_at, if_neg (by omega)]) (fun g i k e => by repeat rw [mset_at, if_neg (by omega)]), c8.fr (fun g i k e => by repeat rw [mset_at, if_neg (by omega)]) (fun g i k e => by repeat rw [mset_at, if_neg (by omega)]), c9.fr (Nat.le_refl _) (Nat.le_refl _) (Nat.le_refl _) (fun g i k e => by repeat rw [mset_at, if_neg (by omega)]) (fun g i k e => by repeat rw [mset_at, if_neg (by omega)]), c10.fr (fun g i k e => by repeat rw [mset_at, if_neg (by omega)])⟩
  · intro k hk
    by_cases e : k = b
    · subst e
      have := c3 k hk
      simp [mset_at]
      exact ⟨this.1, this.2.1, this.2.2.1, this.2.2.2.1, hv⟩
    · have := c3 k hk
      simp [mset_at, e]
      exact this
  · refine ⟨⟨?_, ?_⟩, ?_, fun k hk => ?_⟩
    · simp [mset_at]; exact c4.1.1
    · simp [mset_at]; exact c4.1.2
    · simp [mset_at]; exact c4.2.1
    · have := c4.2.2 k hk
      by_cases e : k = b
      · subst e
        simp [mset_at]
        simp [this]
      · simp [mset_at, e]
        exact this
theorem RR.born {M0 M : wS} {nb nt tc z bo r : Nat} (h : RR M0 M nb nt tc z bo r) {b : Nat} (v : Int32) (hv : 0 ≤ v ∧ v ≤ 51) : RR (mset M0 5 b 1 v) (mset M 35 0 b v) nb nt tc z bo r := by
  obtain ⟨c1, c2, c3, c4, c5, c6, c7, c8, c9, c10⟩ := h
  refine ⟨c1.fr (fun g i k e => by repeat rw [mset_at, if_neg (by omega)]) (fun g i k e => by repeat rw [mset_at, if_neg (by omega)]), c2.fr (fun g i k e => by repeat rw [mset_at, if_neg (by omega)]), ?_, ?_, c5.fr (fun g i k e => by repeat rw [mset_at, if_neg (by omega)]) (fun g i k e => by repeat rw [mset_at, if_neg (by omega)]), c6.fr (fun g i k e => by repeat rw [mset_at, if_neg (by omega)]) (fun g i k e => by repeat rw [mset_at, if_neg (by omega)]), c7.fr (fun g i k e => by repeat rw [mset_at, if_neg (by omega)]) (fun g i k e => by repeat rw [mset_at, if_neg (by omega)]), c8.fr (fun g i k e => by repeat rw [mset_at, if_neg (by omega)]) (fun g i k e => by repeat rw [mset_at, if_neg (by omega)]), c9.fr (Nat.le_refl _) (Nat.le_refl _) (Nat.le_refl _) (fun g i k e => by repeat rw [mset_at, if_neg (by omega)]) (fun g i k e => by repeat rw [mset_at, if_neg (by omega)]), c10.fr (fun g i k e => by repeat rw [mset_at, if_neg (by omega)])⟩
  · intro k hk
    by_cases e : k = b
    · subst e
      have := c3 k hk
      simp [mset_at]
      exact ⟨this.1, hv, this.2.2⟩
    · have := c3 k hk
      simp [mset_at, e]
      exact this
  · refine ⟨⟨?_, ?_⟩, ?_, fun k hk => ?_⟩
    · simp [mset_at]; exact c4.1.1
    · simp [mset_at]; exact c4.1.2
    · simp [mset_at]; exact c4.2.1
    · have := c4.2.2 k hk
      by_cases e : k = b
      · subst e
        simp [mset_at]
        simp [this]
      · simp [mset_at, e]
        exact this
theorem RR.owner {M0 M : wS} {nb nt tc z bo r : Nat} (h : RR M0 M nb nt tc z bo r) {b : Nat} (v : Int32)  : RR (mset M0 29 0 b v) (mset M 41 0 b v) nb nt tc z bo r := by
  obtain ⟨c1, c2, c3, c4, c5, c6, c7, c8, c9, c10⟩ := h
  refine ⟨c1.fr (fun g i k e => by repeat rw [mset_at, if_neg (by omega)]) (fun g i k e => by repeat rw [mset_at, if_neg (by omega)]), c2.fr (fun g i k e => by repeat rw [mset_at, if_neg (by omega)]), ?_, ?_, c5.fr (fun g i k e => by repeat rw [mset_at, if_neg (by omega)]) (fun g i k e => by repeat rw [mset_at, if_neg (by omega)]), c6.fr (fun g i k e => by repeat rw [mset_at, if_neg (by omega)]) (fun g i k e => by repeat rw [mset_at, if_neg (by omega)]), c7.fr (fun g i k e => by repeat rw [mset_at, if_neg (by omega)]) (fun g i k e => by repeat rw [mset_at, if_neg (by omega)]), c8.fr (fun g i k e => by repeat rw [mset_at, if_neg (by omega)]) (fun g i k e => by repeat rw [mset_at, if_neg (by omega)]), c9.fr (Nat.le_refl _) (Nat.le_refl _) (Nat.le_refl _) (fun g i k e => by repeat rw [mset_at, if_neg (by omega)]) (fun g i k e => by repeat rw [mset_at, if_neg (by omega)]), c10.fr (fun g i k e => by repeat rw [mset_at, if_neg (by omega)])⟩
  · exact c3.fr (fun g i k e => by repeat rw [mset_at, if_neg (by omega)])
  · refine ⟨⟨?_, ?_⟩, ?_, fun k hk => ?_⟩
    · simp [mset_at]; exact c4.1.1
    · simp [mset_at]; exact c4.1.2
    · simp [mset_at]; exact c4.2.1
    · have := c4.2.2 k hk
      by_cases e : k = b
      · subst e
        simp [mset_at]
        simp [this]
      · simp [mset_at, e]
        exact this
theorem RR.carry {M0 M : wS} {nb nt tc z bo r : Nat} (h : RR M0 M nb nt tc z bo r)  (v : Int32)  : RR (mset M0 26 0 7 v) (mset M 30 0 21 v) nb nt tc z bo r := by
  obtain ⟨c1, c2, c3, c4, c5, c6, c7, c8, c9, c10⟩ := h
  refine ⟨c1.fr (fun g i k e => by repeat rw [mset_at, if_neg (by omega)]) (fun g i k e => by repeat rw [mset_at, if_neg (by omega)]), c2.fr (fun g i k e => by repeat rw [mset_at, if_neg (by omega)]), ?_, ?_, c5.fr (fun g i k e => by repeat rw [mset_at, if_neg (by omega)]) (fun g i k e => by repeat rw [mset_at, if_neg (by omega)]), c6.fr (fun g i k e => by repeat rw [mset_at, if_neg (by omega)]) (fun g i k e => by repeat rw [mset_at, if_neg (by omega)]), c7.fr (fun g i k e => by repeat rw [mset_at, if_neg (by omega)]) (fun g i k e => by repeat rw [mset_at, if_neg (by omega)]), c8.fr (fun g i k e => by repeat rw [mset_at, if_neg (by omega)]) (fun g i k e => by repeat rw [mset_at, if_neg (by omega)]), c9.fr (Nat.le_refl _) (Nat.le_refl _) (Nat.le_refl _) (fun g i k e => by repeat rw [mset_at, if_neg (by omega)]) (fun g i k e => by repeat rw [mset_at, if_neg (by omega)]), c10.fr (fun g i k e => by repeat rw [mset_at, if_neg (by omega)])⟩
  · exact c3.fr (fun g i k e => by repeat rw [mset_at, if_neg (by omega)])
  · refine ⟨⟨?_, ?_⟩, ?_, fun k hk => ?_⟩
    · simp [mset_at]; exact c4.1.1
    · simp [mset_at]; exact c4.1.2
    · simp [mset_at]; exact ⟨c4.2.1.1, c4.2.1.2.1, c4.2.1.2.2.2⟩
    · have := c4.2.2 k hk
      simp [mset_at]
      exact this
theorem o_thing (hG : 56 ≤ G) (hd : 1 ≤ d) {M0 M : wS} {nb nt tc z bo r : Nat} (h : RR M0 M nb nt tc z bo r) (size value : Int32) : Ctr l D cy ad G d yX10_thing cX10_thing 3 (some .int) [.ref (ad 30 0), .int size, .int value] M (rI fun x M' => RO (kThing M0 nt size value) M x M') := by
  have h0 := h
  obtain ⟨c1, c2, c3, c4, c5, c6, c7, c8, c9, c10⟩ := h
  have hm := c4.1.2
  refine Ctr.of (lv0 := [(0, _), (1, _), (2, _)]) (by decide) (Nat.le_of_ble_eq_true rfl) rfl ?_
  intro p e s m args below meth c C hr hlk _
  have C : CX p s m args c cX10_thing 3 "CostsAgeModel" D cy ad G (wA ad G) (Rm d) d 0 0 := C
  refine V_iload_n (pc := 0) C 1 dX10_thing_0 rfl rfl ?_
  refine V_i2l (pc := 1) C dX10_thing_1 ?_
  refine V_lconst (v := 0) (pc := 2) C dX10_thing_2 (by decide) ?_
  refine V_ldc2 (pc := 3) C dX10_thing_3 qk_X10_122 ?_
  refine call_X10_106 (pc := 6) C (c_in (d := d - 1) M size 0 9 (by decide) (by decide)) (by omega) (Nat.le_of_ble_eq_true rfl) dX10_thing_6 (fun x_6 M_6 h_6 => ?_)
  obtain ⟨e_6, rfl⟩ := h_6
  have e_6 := e_6.symm
  subst e_6
  refine V_if_eq (tgt := 24) (pc := 9) C dX10_thing_9 (by decide) (fun h_9 => ?_) (fun h_9 => ?_)
  · have h_9 := bJ_0.mp h_9
    refine V_bipush (v := -2) (pc := 24) C dX10_thing_24 (by decide) ?_
    refine V_iret (pc := 26) C hr hlk dX10_thing_26 ⟨_, rfl, ?_⟩
    rw [kThing, if_neg]
    · exact ⟨rfl, cK.rf, h0.keep⟩
    · first | exact fun e => h_9 e.1 | exact fun e => h_21 e.2
  · have h_9 := bJ_1.mp h_9
    refine V_iload_n (pc := 12) C 2 dX10_thing_12 rfl rfl ?_
    refine V_i2l (pc := 13) C dX10_thing_13 ?_
    refine V_lconst (v := 0) (pc := 14) C dX10_thing_14 (by decide) ?_
    refine V_ldc2 (pc := 15) C dX10_thing_15 qk_X10_120 ?_
    refine call_X10_106 (pc := 18) C (c_in (d := d - 1) M value 0 999 (by decide) (by decide)) (by omega) (Nat.le_of_ble_eq_true rfl) dX10_thing_18 (fun x_18 M_18 h_18 => ?_)
    obtain ⟨e_18, rfl⟩ := h_18
    have e_18 := e_18.symm
    subst e_18
    refine V_if_ne (tgt := 27) (pc := 21) C dX10_thing_21 (by decide) (fun h_21 => ?_) (fun h_21 => ?_)
    · have h_21 := bJ_1.mp h_21
      refine V_aload_n (pc := 27) C 0 dX10_thing_27 rfl rfl ?_
      refine get_X10_110 (pc := 28) C (wg hG (by decide) (by decide)) dX10_thing_28 ?_
      refine V_bipush (v := 7) (pc := 31) C dX10_thing_31 (by decide) ?_
      refine V_icmp_ne (tgt := 39) (pc := 33) C dX10_thing_33 (by decide) (fun h_33 => ?_) (fun h_33 => ?_)
      · rw [hm] at h_33
        have hlt : nt < 7 := Nat.lt_of_le_of_ne c1.2.1.2 (fun e => h_33 (by rw [e]; rfl))
        rw [kThing, if_pos ⟨h_9, h_21⟩, if_pos hlt]
        refine V_aload_n (pc := 39) C 0 dX10_thing_39 rfl rfl ?_
        refine get_X10_38 (pc := 40) C (wg hG (by decide) (by decide)) dX10_thing_40 ?_
        refine V_aload_n (pc := 43) C 0 dX10_thing_43 rfl rfl ?_
        refine get_X10_110 (pc := 44) C (wg hG (by decide) (by decide)) dX10_thing_44 ?_
        refine V_iload_n (pc := 47) C 1 dX10_thing_47 rfl rfl ?_
        refine V_iast (pc := 48) C (nt) hm hlt (Nat.le_of_ble_eq_true rfl) (wg hG (by decide) (by decide)) (fun _ => wF_39) dX10_thing_48 ?_
        refine V_aload_n (pc := 49) C 0 dX10_thing_49 rfl rfl ?_
        refine get_X10_41 (pc := 50) C (wg hG (by decide) (by decide)) dX10_thing_50 ?_
        refine V_aload_n (pc := 53) C 0 dX10_thing_53 rfl rfl ?_
        refine get_X10_110 (pc := 54) C (wg hG (by decide) (by decide)) dX10_thing_54 ?_
        refine V_iload_n (pc := 57) C 2 dX10_thing_57 rfl rfl ?_
        refine V_iast (pc := 58) C (nt) (by rw [mset_at, if_neg (by omega)]; exact hm) hlt (Nat.le_of_ble_eq_true rfl) (wg hG (by decide) (by decide)) (fun _ => wF_40) dX10_thing_58 ?_
        refine V_aload_n (pc := 59) C 0 dX10_thing_59 rfl rfl ?_
        refine get_X10_44 (pc := 60) C (wg hG (by decide) (by decide)) dX10_thing_60 ?_
        refine V_aload_n (pc := 63) C 0 dX10_thing_63 rfl rfl ?_
        refine get_X10_110 (pc := 64) C (wg hG (by decide) (by decide)) dX10_thing_64 ?_
        refine V_iconst (v := -1) (pc := 67) C dX10_thing_67 (by decide) ?_
        refine V_iast (pc := 68) C (nt) (by rw [mset_at, if_neg (by omega), mset_at, if_neg (by omega)]; exact hm) hlt (Nat.le_of_ble_eq_true rfl) (wg hG (by decide) (by decide)) (fun _ => wF_41) dX10_thing_68 ?_
        refine V_aload_n (pc := 69) C 0 dX10_thing_69 rfl rfl ?_
        refine V_dup (pc := 70) C dX10_thing_70 rfl ?_
        refine get_X10_110 (pc := 71) C (wg hG (by decide) (by decide)) dX10_thing_71 ?_
        refine V_iconst (v := 1) (pc := 74) C dX10_thing_74 (by decide) ?_
        refine V_iadd (pc := 75) C dX10_thing_75 ?_
        refine put_X10_110 (pc := 76) C (wg hG (by decide) (by decide)) dX10_thing_76 ?_
        rw [show (mset (mset (mset M 39 0 nt size) 40 0 nt value) 41 0 nt (-1)).1 30 0 16 + 1 = nI (nt + 1) by rw [mset_at, if_neg (by omega), mset_at, if_neg (by omega), mset_at, if_neg (by omega), hm, nI_1]]
        refine V_aload_n (pc := 79) C 0 dX10_thing_79 rfl rfl ?_
        refine get_X10_110 (pc := 80) C (wg hG (by decide) (by decide)) dX10_thing_80 ?_
        refine V_iconst (v := 1) (pc := 83) C dX10_thing_83 (by decide) ?_
        refine V_isub (pc := 84) C dX10_thing_84 ?_
        refine V_iret (pc := 85) C hr hlk dX10_thing_85 ⟨_, rfl, ?_⟩
        refine ⟨?_, ?_, nb, nt + 1, tc, z, bo, r, ?_⟩
        · rw [mset_at, if_pos ⟨rfl, rfl, rfl⟩]
          exact nI_pred nt
        · exact ((((cK.set _ (by decide)).tr (cK.set _ (by decide))).tr (cK.set _ (by decide))).tr (cK.set _ (by decide)))
        · have h2 : 2 ^ nt ≤ 2 ^ (nt + 1) := Nat.pow_le_pow_right (by decide) (Nat.le_succ _)
          have cb := c2.fr (M0' := kThingM M0 nt size value) (fun g i k e => by unfold kThingM; repeat rw [mset_at, if_neg (by omega)])
          refine ⟨?_, ⟨⟨cb.1.1, Nat.lt_of_lt_of_le cb.1.2 h2⟩, cb.2⟩, c3.fr (fun g i k e => by unfold kThingM; repeat rw [mset_at, if_neg (by omega)]), ?_, c5.fr (fun g i k e => by unfold kThingM; repeat rw [mset_at, if_neg (by omega)]) (fun g i k e => by repeat rw [mset_at, if_neg (by omega)]), c6.fr (fun g i k e => by unfold kThingM; repeat rw [mset_at, if_neg (by omega)]) (fun g i k e => by repeat rw [mset_at, if_neg (by omega)]), c7.fr (fun g i k e => by unfold kThingM; repeat rw [mset_at, if_neg (by omega)]) (fun g i k e => by repeat rw [mset_at, if_neg (by omega)]), c8.fr (fun g i k e => by unfold kThingM; repeat rw [mset_at, if_neg (by omega)]) (fun g i k e => by repeat rw [mset_at, if_neg (by omega)]), c9.fr (Nat.le_refl _) (Nat.le_succ _) (Nat.le_refl _) (fun g i k e => by unfold kThingM; repeat rw [mset_at, if_neg (by omega)]) (fun g i k e => by repeat rw [mset_at, if_neg (by omega)]), c10.fr (fun g i k e => by unfold kThingM; repeat rw [mset_at, if_neg (by omega)])⟩
          · refine ⟨⟨?_, c1.1.2⟩, ⟨?_, by omega⟩, ⟨?_, c1.2.2.1.2⟩, ?_⟩
            · simp [kThingM, mset_at]; exact c1.1.1
            · rw [kThingM, mset_at, if_pos ⟨rfl, rfl, rfl⟩, nI_1]
            · simp [kThingM, mset_at]; exact c1.2.2.1.1
            · simp [mset_at]; exact c1.2.2.2
          · refine ⟨⟨?_, ?_⟩, ?_, fun k hk => ?_⟩
            · simp [mset_at]; exact c4.1.1
            · simp [mset_at]
            · simp [kThingM, mset_at]; exact c4.2.1
            · have := c4.2.2 k hk
              by_cases e : k = nt
              · subst e
                simp [kThingM, mset_at]
                exact this.1
              · simp [kThingM, mset_at, e]
                exact this
      · rw [hm] at h_33
        have hlt : ¬ nt < 7 := fun e => absurd ((nI_eq (b := 7) (by omega) (by decide)).mp h_33) (by omega)
        rw [kThing, if_pos ⟨h_9, h_21⟩, if_neg hlt]
        refine V_bipush (v := -4) (pc := 36) C dX10_thing_36 (by decide) ?_
        refine V_iret (pc := 38) C hr hlk dX10_thing_38 ⟨_, rfl, ?_⟩
        exact ⟨rfl, cK.rf, h0.keep⟩
    · have h_21 := bJ_0.mp h_21
      refine V_bipush (v := -2) (pc := 24) C dX10_thing_24 (by decide) ?_
      refine V_iret (pc := 26) C hr hlk dX10_thing_26 ⟨_, rfl, ?_⟩
      rw [kThing, if_neg]
      · exact ⟨rfl, cK.rf, h0.keep⟩
      · first | exact fun e => h_9 e.1 | exact fun e => h_21 e.2
theorem o_force (hG : 56 ≤ G) (hd : 1 ≤ d) {M0 M : wS} {nb nt tc z bo r : Nat} (h : RR M0 M nb nt tc z bo r) (t : Int32) : Ctr l D cy ad G d yX10_force cX10_force 3 (some .int) [.ref (ad 30 0), .int t] M (rI fun x M' => RO (kForce M0 t) M x M') := by
  have h0 := h
  obtain ⟨c1, c2, c3, c4, c5, c6, c7, c8, c9, c10⟩ := h
  have htc := c1.2.2.1
  have h3 := c1.2.2.2
  have key : (0 ≤ t ∧ t ≤ nI tc - 1) ↔ (0 ≤ t ∧ t < M0.1 0 0 13) := by
    rw [htc.1]
    have h1 : (nI tc).toInt = (tc : Int) := nI_toInt (by omega)
    rw [Int32.le_iff_toInt_le, Int32.le_iff_toInt_le, Int32.lt_iff_toInt_lt, Int32.toInt_sub, h1]
    simp only [Int.bmod, Int32.reduceToInt]
    omega
  refine Ctr.of (lv0 := [(0, _), (1, _)]) (by decide) (Nat.le_of_ble_eq_true rfl) rfl ?_
  intro p e s m args below meth c C hr hlk _
  have C : CX p s m args c cX10_force 3 "CostsAgeModel" D cy ad G (wA ad G) (Rm d) d 0 0 := C
  refine V_iload_n (pc := 0) C 1 dX10_force_0 rfl rfl ?_
  refine V_i2l (pc := 1) C dX10_force_1 ?_
  refine V_lconst (v := 0) (pc := 2) C dX10_force_2 (by decide) ?_
  refine V_aload_n (pc := 3) C 0 dX10_force_3 rfl rfl ?_
  refine get_X10_100 (pc := 4) C (wg hG (by decide) (by decide)) dX10_force_4 ?_
  refine V_iconst (v := 1) (pc := 7) C dX10_force_7 (by decide) ?_
  refine V_isub (pc := 8) C dX10_force_8 ?_
  refine V_i2l (pc := 9) C dX10_force_9 ?_
  rw [h3]
  refine call_X10_106 (pc := 10) C (c_in (d := d - 1) M t 0 (nI tc - 1) (by decide) rfl) (by omega) (Nat.le_of_ble_eq_true rfl) dX10_force_10 (fun x_10 M_10 h_10 => ?_)
  obtain ⟨e_10, rfl⟩ := h_10
  have e_10 := e_10.symm
  subst e_10
  refine V_if_ne (tgt := 19) (pc := 13) C dX10_force_13 (by decide) (fun h_13 => ?_) (fun h_13 => ?_)
  · have h_13 := bJ_1.mp h_13
    rw [kForce, if_pos (key.mp h_13)]
    obtain ⟨u, hu, rfl⟩ := ix_of (n := tc) h_13.1 (by have := (key.mp h_13).2; rw [htc.1] at this; exact this) (by omega)
    refine V_aload_n (pc := 19) C 0 dX10_force_19 rfl rfl ?_
    refine get_X10_270 (pc := 20) C (wg hG (by decide) (by decide)) dX10_force_20 ?_
    refine Vs_istore_n (lv' := [(0, _), (1, _), (2, _)]) (pc := 23) C dX10_force_23 rfl (by decide) rfl rfl ?_
    refine V_aload_n (pc := 24) C 0 dX10_force_24 rfl rfl ?_
    refine V_iload_n (pc := 25) C 1 dX10_force_25 rfl rfl ?_
    refine put_X10_270 (pc := 26) C (wg hG (by decide) (by decide)) dX10_force_26 ?_
    refine V_iload_n (pc := 29) C 2 dX10_force_29 rfl rfl ?_
    refine V_iret (pc := 30) C hr hlk dX10_force_30 ⟨_, rfl, ?_⟩
    refine ⟨c4.2.1.2.2.2, cK.set _ (by decide), nb, nt, tc, z, bo, u, ?_⟩
    refine ⟨?_, ?_, c3.fr (fun g i k e => by repeat rw [mset_at, if_neg (by omega)]), ?_, c5.fr (fun g i k e => by repeat rw [mset_at, if_neg (by omega)]) (fun g i k e => by repeat rw [mset_at, if_neg (by omega)]), c6.fr (fun g i k e => by repeat rw [mset_at, if_neg (by omega)]) (fun g i k e => by repeat rw [mset_at, if_neg (by omega)]), c7.fr (fun g i k e => by repeat rw [mset_at, if_neg (by omega)]) (fun g i k e => by repeat rw [mset_at, if_neg (by omega)]), c8.fr (fun g i k e => by repeat rw [mset_at, if_neg (by omega)]) (fun g i k e => by repeat rw [mset_at, if_neg (by omega)]), c9.fr (Nat.le_refl _) (Nat.le_refl _) (Nat.le_refl _) (fun g i k e => by repeat rw [mset_at, if_neg (by omega)]) (fun g i k e => by repeat rw [mset_at, if_neg (by omega)]), c10.fr (fun g i k e => by repeat rw [mset_at, if_neg (by omega)])⟩
    · have := c1.fr (M0' := mset M0 26 0 8 (nI u)) (M' := mset M 30 0 4 (nI u)) (fun g i k e => by repeat rw [mset_at, if_neg (by omega)]) (fun g i k e => by repeat rw [mset_at, if_neg (by omega)])
      exact ⟨this.1, this.2.1, ⟨this.2.2.1.1, hu, this.2.2.1.2.2⟩, this.2.2.2⟩
    · simp [pB, mset_at]; exact ⟨c2.1, c2.2.1, c2.2.2.1⟩
    · refine ⟨⟨?_, ?_⟩, ?_, fun k hk => ?_⟩
      · simp [mset_at]; exact c4.1.1
      · simp [mset_at]; exact c4.1.2
      · simp [mset_at]; exact ⟨c4.2.1.1, c4.2.1.2.1, c4.2.1.2.2.1⟩
      · have := c4.2.2 k hk
        simp [mset_at]
        exact this
  · have h_13 := bJ_0.mp h_13
    refine V_bipush (v := -2) (pc := 16) C dX10_force_16 (by decide) ?_
    refine V_iret (pc := 18) C hr hlk dX10_force_18 ⟨_, rfl, ?_⟩
    rw [kForce, if_neg (fun e => h_13 (key.mpr e))]
    exact ⟨rfl, cK.rf, h0.keep⟩
theorem o_feed (hG : 56 ≤ G) (hd : 1 ≤ d) {M0 M : wS} {nb nt tc z bo r : Nat} (h : RR M0 M nb nt tc z bo r) (v : Int32) : Ctr l D cy ad G d yX10_feed cX10_feed 2 (some .int) [.ref (ad 30 0), .int v] M (rI fun x M' => RO (kFeed M0 z v) M x M') := by
  have h0 := h
  obtain ⟨c1, c2, c3, c4, c5, c6, c7, c8, c9, c10⟩ := h
  obtain ⟨t1, t2, t3, t4⟩ := c6
  refine Ctr.of (lv0 := [(0, _), (1, _)]) (by decide) (Nat.le_of_ble_eq_true rfl) rfl ?_
  intro p e s m args below meth c C hr hlk _
  have C : CX p s m args c cX10_feed 2 "CostsAgeModel" D cy ad G (wA ad G) (Rm d) d 0 0 := C
  refine V_iload_n (pc := 0) C 1 dX10_feed_0 rfl rfl ?_
  refine V_i2l (pc := 1) C dX10_feed_1 ?_
  refine V_lconst (v := 0) (pc := 2) C dX10_feed_2 (by decide) ?_
  refine V_ldc2 (pc := 3) C dX10_feed_3 qk_X10_152 ?_
  refine call_X10_106 (pc := 6) C (c_in (d := d - 1) M v 0 255 (by decide) (by decide)) (by omega) (Nat.le_of_ble_eq_true rfl) dX10_feed_6 (fun x_6 M_6 h_6 => ?_)
  obtain ⟨e_6, rfl⟩ := h_6
  have e_6 := e_6.symm
  subst e_6
  refine V_if_ne (tgt := 15) (pc := 9) C dX10_feed_9 (by decide) (fun h_9 => ?_) (fun h_9 => ?_)
  · have h_9 := bJ_1.mp h_9
    refine V_aload_n (pc := 15) C 0 dX10_feed_15 rfl rfl ?_
    refine get_X10_154 (pc := 16) C (wg hG (by decide) (by decide)) dX10_feed_16 ?_
    refine V_sipush (v := 160) (pc := 19) C dX10_feed_19 (by decide) ?_
    refine V_icmp_ne (tgt := 28) (pc := 22) C dX10_feed_22 (by decide) (fun h_22 => ?_) (fun h_22 => ?_)
    · rw [t3] at h_22
      have hlt : z < 160 := Nat.lt_of_le_of_ne t2 (fun e => h_22 (by rw [e]; rfl))
      rw [kFeed, if_pos h_9, if_pos hlt]
      refine V_aload_n (pc := 28) C 0 dX10_feed_28 rfl rfl ?_
      refine get_X10_20 (pc := 29) C (wg hG (by decide) (by decide)) dX10_feed_29 ?_
      refine V_aload_n (pc := 32) C 0 dX10_feed_32 rfl rfl ?_
      refine get_X10_154 (pc := 33) C (wg hG (by decide) (by decide)) dX10_feed_33 ?_
      refine V_iload_n (pc := 36) C 1 dX10_feed_36 rfl rfl ?_
      refine V_iast (pc := 37) C (z) t3 hlt (Nat.le_of_ble_eq_true rfl) (wg hG (by decide) (by decide)) (fun _ => wF_33) dX10_feed_37 ?_
      refine V_aload_n (pc := 38) C 0 dX10_feed_38 rfl rfl ?_
      refine V_dup (pc := 39) C dX10_feed_39 rfl ?_
      refine get_X10_154 (pc := 40) C (wg hG (by decide) (by decide)) dX10_feed_40 ?_
      refine V_iconst (v := 1) (pc := 43) C dX10_feed_43 (by decide) ?_
      refine V_iadd (pc := 44) C dX10_feed_44 ?_
      refine put_X10_154 (pc := 45) C (wg hG (by decide) (by decide)) dX10_feed_45 ?_
      rw [show (mset M 33 0 z v).1 30 0 6 + 1 = nI (z + 1) by rw [mset_at, if_neg (by omega), t3, nI_1]]
      refine V_aload_n (pc := 48) C 0 dX10_feed_48 rfl rfl ?_
      refine get_X10_154 (pc := 49) C (wg hG (by decide) (by decide)) dX10_feed_49 ?_
      refine V_iret (pc := 52) C hr hlk dX10_feed_52 ⟨_, rfl, ?_⟩
      refine ⟨?_, (cK.set _ (by decide)).tr (cK.set _ (by decide)), nb, nt, tc, z + 1, bo, r, ?_⟩
      · rw [mset_at, if_pos ⟨rfl, rfl, rfl⟩, ← nI_1]
      · refine ⟨c1.fr (fun g i k e => by unfold kApp; repeat rw [mset_at, if_neg (by omega)]) (fun g i k e => by repeat rw [mset_at, if_neg (by omega)]), c2.fr (fun g i k e => by unfold kApp; repeat rw [mset_at, if_neg (by omega)]), c3.fr (fun g i k e => by unfold kApp; repeat rw [mset_at, if_neg (by omega)]), c4.fr (fun g i k e => by unfold kApp; repeat rw [mset_at, if_neg (by omega)]) (fun g i k e => by repeat rw [mset_at, if_neg (by omega)]), c5.fr (fun g i k e => by unfold kApp; repeat rw [mset_at, if_neg (by omega)]) (fun g i k e => by repeat rw [mset_at, if_neg (by omega)]), ?_, c7.fr (fun g i k e => by unfold kApp; repeat rw [mset_at, if_neg (by omega)]) (fun g i k e => by repeat rw [mset_at, if_neg (by omega)]), c8.fr (fun g i k e => by unfold kApp; repeat rw [mset_at, if_neg (by omega)]) (fun g i k e => by repeat rw [mset_at, if_neg (by omega)]), c9.fr (Nat.le_refl _) (Nat.le_refl _) (Nat.le_refl _) (fun g i k e => by unfold kApp; repeat rw [mset_at, if_neg (by omega)]) (fun g i k e => by repeat rw [mset_at, if_neg (by omega)]), c10.fr (fun g i k e => by unfold kApp; repeat rw [mset_at, if_neg (by omega)])⟩
        refine ⟨?_, by omega, ?_, fun k hk => ?_⟩
        · rw [kApp, mset_at, if_pos ⟨rfl, rfl, rfl⟩, nI_1]
        · simp [mset_at]
        · by_cases e : k = z
          · subst e
            simp [kApp, mset_at]
            exact h_9.1
          · have := t4 k (by omega)
            simp [kApp, mset_at, e]
            exact this
    · rw [t3] at h_22
      have hlt : ¬ z < 160 := fun e => absurd ((nI_eq (b := 160) (by omega) (by decide)).mp h_22) (by omega)
      rw [kFeed, if_pos h_9, if_neg hlt]
      refine V_bipush (v := -4) (pc := 25) C dX10_feed_25 (by decide) ?_
      refine V_iret (pc := 27) C hr hlk dX10_feed_27 ⟨_, rfl, ?_⟩
      exact ⟨rfl, cK.rf, h0.keep⟩
  · have h_9 := bJ_0.mp h_9
    refine V_bipush (v := -2) (pc := 12) C dX10_feed_12 (by decide) ?_
    refine V_iret (pc := 14) C hr hlk dX10_feed_14 ⟨_, rfl, ?_⟩
    rw [kFeed, if_neg h_9]
    exact ⟨rfl, cK.rf, h0.keep⟩
theorem o_years (hG : 56 ≤ G) (hd : 2 ≤ d) {M0 M : wS} {nb nt tc z bo r : Nat} (h : RR M0 M nb nt tc z bo r) (b n : Int32) : Ctr l D cy ad G d yX10_years cX10_years 3 (some .int) [.ref (ad 30 0), .int b, .int n] M (rI fun x M' => RO (kYears M0 nb b n, M0) M x M') := by
  obtain ⟨e1, e2, e3, hC⟩ := h.rC
  have hb := hC.1.1.2
  refine Ctr.of (lv0 := [(0, _), (1, _), (2, _)]) (by decide) (Nat.le_of_ble_eq_true rfl) rfl ?_
  intro p e s m args below meth c C hr hlk _
  have C : CX p s m args c cX10_years 3 "CostsAgeModel" D cy ad G (wA ad G) (Rm d) d 0 0 := C
  refine V_aload_n (pc := 0) C 0 dX10_years_0 rfl rfl ?_
  refine V_iload_n (pc := 1) C 1 dX10_years_1 rfl rfl ?_
  refine call_X10_132 (pc := 2) C (c_X10_isBuyer (d := d - 1) hG (by omega) M hC.2.1.1.1 hb b) (by omega) (wg hG (by decide) (by decide)) (Nat.le_of_ble_eq_true rfl) dX10_years_2 (fun x_2 M_2 h_2 => ?_)
  obtain ⟨e_2, rfl⟩ := h_2
  have e_2 := e_2.symm
  subst e_2
  refine V_if_eq (tgt := 29) (pc := 5) C dX10_years_5 (by decide) (fun h_5 => ?_) (fun h_5 => ?_)
  · have h_5 := bJ_0.mp h_5
    refine V_bipush (v := -2) (pc := 29) C dX10_years_29 (by decide) ?_
    refine V_iret (pc := 31) C hr hlk dX10_years_31 ⟨_, rfl, ?_⟩
    first | exact ⟨by simp only []; rw [kYears, if_neg (fun e => h_5 e.1)], cK.rf, h.keep⟩ | exact ⟨by simp only []; rw [kYears, if_neg (fun e => h_17 e.2)], cK.rf, h.keep⟩ | exact ⟨by simp only []; rw [kYears, if_pos ⟨h_5, h_17⟩, nI_clamp (by omega)], cK.rf, h.keep⟩
  · have h_5 := bJ_1.mp h_5
    obtain ⟨k, hk, rfl⟩ := ix_of h_5.1 h_5.2 (by omega)
    refine V_iload_n (pc := 8) C 2 dX10_years_8 rfl rfl ?_
    refine V_i2l (pc := 9) C dX10_years_9 ?_
    refine V_lconst (v := 0) (pc := 10) C dX10_years_10 (by decide) ?_
    refine V_ldc2 (pc := 11) C dX10_years_11 qk_X10_273 ?_
    refine call_X10_106 (pc := 14) C (c_in (d := d - 1) M n 0 103 (by decide) (by decide)) (by omega) (Nat.le_of_ble_eq_true rfl) dX10_years_14 (fun x_14 M_14 h_14 => ?_)
    obtain ⟨e_14, rfl⟩ := h_14
    have e_14 := e_14.symm
    subst e_14
    refine V_if_eq (tgt := 29) (pc := 17) C dX10_years_17 (by decide) (fun h_17 => ?_) (fun h_17 => ?_)
    · have h_17 := bJ_0.mp h_17
      refine V_bipush (v := -2) (pc := 29) C dX10_years_29 (by decide) ?_
      refine V_iret (pc := 31) C hr hlk dX10_years_31 ⟨_, rfl, ?_⟩
      first | exact ⟨by simp only []; rw [kYears, if_neg (fun e => h_5 e.1)], cK.rf, h.keep⟩ | exact ⟨by simp only []; rw [kYears, if_neg (fun e => h_17 e.2)], cK.rf, h.keep⟩ | exact ⟨by simp only []; rw [kYears, if_pos ⟨h_5, h_17⟩, nI_clamp (by omega)], cK.rf, h.keep⟩
    · have h_17 := bJ_1.mp h_17
      refine V_aload_n (pc := 20) C 0 dX10_years_20 rfl rfl ?_
      refine V_iload_n (pc := 21) C 1 dX10_years_21 rfl rfl ?_
      refine V_iload_n (pc := 22) C 2 dX10_years_22 rfl rfl ?_
      refine call_X10_275 (pc := 23) C (c_X10_yearsIn (d := d - 1) hG hC (k := k) (by omega) h_17) (by omega) (wg hG (by decide) (by decide)) (Nat.le_of_ble_eq_true rfl) dX10_years_23 (fun x_23 M_23 h_23 => ?_)
      obtain ⟨e_23, rfl⟩ := h_23
      have e_23 := e_23.symm
      subst e_23
      refine V_goto (tgt := 31) (pc := 26) C dX10_years_26 (by decide) ?_
      refine V_iret (pc := 31) C hr hlk dX10_years_31 ⟨_, rfl, ?_⟩
      first | exact ⟨by simp only []; rw [kYears, if_neg (fun e => h_5 e.1)], cK.rf, h.keep⟩ | exact ⟨by simp only []; rw [kYears, if_neg (fun e => h_17 e.2)], cK.rf, h.keep⟩ | exact ⟨by simp only []; rw [kYears, if_pos ⟨h_5, h_17⟩, nI_clamp (by omega)], cK.rf, h.keep⟩
end S75
