/-- the class's groups as they were -/
def cK (M M' : wS) : Prop := ∀ g i, g < 30 → M'.1 g i = M.1 g i
theorem cK.rf {M : wS} : cK M M := fun _ _ _ => rfl
theorem cK.tr {M M1 M2 : wS} (h : cK M M1) (h2 : cK M1 M2) : cK M M2 := fun g i a => (h2 g i a).trans (h g i a)
theorem cK.set {M : wS} {g i k : Nat} (x : Int32) (hg : 30 ≤ g) : cK M (mset M g i k x) := fun g' i' e => by
  funext j
  rw [mset_at, if_neg (by omega)]
theorem qF.cK {M M' : wS} (h : qF M M') : cK M M' := fun g i e => h.1 g i (by omega) (by simp only [List.mem_cons, List.not_mem_nil, or_false]; omega)
/-- the answer, and the relation goes on -/
def RO (y : Int32 × wS) (M : wS) (x : Int32) (M' : wS) : Prop := x = y.1 ∧ cK M M' ∧ ∃ nb nt tc z bo r, RR y.2 M' nb nt tc z bo r
theorem buy_r {what asks : Int32} (hw : 0 ≤ what ∧ what ≤ 5199) (ha : 0 ≤ asks ∧ asks ≤ 999) : (0 ≤ what / 100 ∧ what / 100 ≤ 51) ∧ (0 ≤ asks - asks / 10 * 10 ∧ asks - asks / 10 * 10 ≤ 9) ∧ (0 ≤ what - what / 100 * 100 ∧ what - what / 100 * 100 ≤ 99) ∧ (0 ≤ asks / 10 ∧ asks / 10 ≤ 99) := by
  obtain ⟨w, hw1, rfl⟩ := ix_of (n := 5200) hw.1 (by have := hw.2; (simp only [i32_eq, Int32.le_iff_toInt_le, Int32.lt_iff_toInt_lt, Int32.not_le, Int32.not_lt, Int32.toInt_add, Int32.toInt_sub, Int32.toInt_mul, Int32.toInt_neg, Int32.toInt_div, tdv2, tdv4, tdv10, tdv52, tdv100, nI_T, apply_ite Int32.toInt, Int.bmod, Int32.reduceToInt] at *; omega)) (by decide)
  obtain ⟨a, ha1, rfl⟩ := ix_of (n := 1000) ha.1 (by have := ha.2; (simp only [i32_eq, Int32.le_iff_toInt_le, Int32.lt_iff_toInt_lt, Int32.not_le, Int32.not_lt, Int32.toInt_add, Int32.toInt_sub, Int32.toInt_mul, Int32.toInt_neg, Int32.toInt_div, tdv2, tdv4, tdv10, tdv52, tdv100, nI_T, apply_ite Int32.toInt, Int.bmod, Int32.reduceToInt] at *; omega)) (by decide)
  rw [show (100 : Int32) = nI 100 from rfl, show (10 : Int32) = nI 10 from rfl, pk_rem (by omega) (by decide) (by decide), pk_rem (by omega) (by decide) (by decide), pk_div (by omega) (by decide) (by decide), pk_div (by omega) (by decide) (by decide)]
  have h1 := Nat.mod_lt a (show 10 > 0 by decide)
  have h2 := Nat.mod_lt w (show 100 > 0 by decide)
  exact ⟨⟨nI_pos' (by omega), nI_le (b := 51) (by omega) (by decide)⟩, ⟨nI_pos' (by omega), nI_le (b := 9) (by omega) (by decide)⟩, ⟨nI_pos' (by omega), nI_le (b := 99) (by omega) (by decide)⟩, ⟨nI_pos' (by omega), nI_le (b := 99) (by omega) (by decide)⟩⟩
section S74
variable {l : Launch} {D : va_G} {cy : Nat → ClassId} {ad : Nat → Nat → Nat} {G d : Nat}
theorem RR.keep {M0 M : wS} {nb nt tc z bo r : Nat} (h : RR M0 M nb nt tc z bo r) : ∃ nb nt tc z bo r, RR M0 M nb nt tc z bo r := ⟨nb, nt, tc, z, bo, r, h⟩
theorem o_buyer (hG : 56 ≤ G) (hd : 1 ≤ d) {M0 M : wS} {nb nt tc z bo r : Nat} (h : RR M0 M nb nt tc z bo r) (kind what asks : Int32) : Ctr l D cy ad G d yX10_buyer cX10_buyer 4 (some .int) [.ref (ad 30 0), .int kind, .int what, .int asks] M (rI fun x M' => RO (kBuyer M0 nb kind what asks) M x M') := by
  have h0 := h
  obtain ⟨c1, c2, c3, c4, c5, c6, c7, c8, c9, c10⟩ := h
  have hm := c4.1.1
  refine Ctr.of (lv0 := [(0, _), (1, _), (2, _), (3, _)]) (by decide) (Nat.le_of_ble_eq_true rfl) rfl ?_
  intro p e s m args below meth c C hr hlk _
  have C : CX p s m args c cX10_buyer 4 "CostsAgeModel" D cy ad G (wA ad G) (Rm d) d 0 0 := C
  refine V_iload_n (pc := 0) C 1 dX10_buyer_0 rfl rfl ?_
  refine V_i2l (pc := 1) C dX10_buyer_1 ?_
  refine V_lconst (v := 0) (pc := 2) C dX10_buyer_2 (by decide) ?_
  refine V_ldc2 (pc := 3) C dX10_buyer_3 qk_X10_116 ?_
  refine call_X10_106 (pc := 6) C (c_in (d := d - 1) M kind 0 5 (by decide) (by decide)) (by omega) (Nat.le_of_ble_eq_true rfl) dX10_buyer_6 (fun x_6 M_6 h_6 => ?_)
  obtain ⟨e_6, rfl⟩ := h_6
  have e_6 := e_6.symm
  subst e_6
  refine V_if_eq (tgt := 36) (pc := 9) C dX10_buyer_9 (by decide) (fun h_9 => ?_) (fun h_9 => ?_)
  · have h_9 := bJ_0.mp h_9
    refine V_bipush (v := -2) (pc := 36) C dX10_buyer_36 (by decide) ?_
    refine V_iret (pc := 38) C hr hlk dX10_buyer_38 ⟨_, rfl, ?_⟩
    rw [kBuyer, if_neg]
    · exact ⟨rfl, cK.rf, h0.keep⟩
    · first | exact fun e => h_9 e.1 | exact fun e => h_21 e.2.1 | exact fun e => h_33 e.2.2
  · have h_9 := bJ_1.mp h_9
    refine V_iload_n (pc := 12) C 2 dX10_buyer_12 rfl rfl ?_
    refine V_i2l (pc := 13) C dX10_buyer_13 ?_
    refine V_lconst (v := 0) (pc := 14) C dX10_buyer_14 (by decide) ?_
    refine V_ldc2 (pc := 15) C dX10_buyer_15 qk_X10_118 ?_
    refine call_X10_106 (pc := 18) C (c_in (d := d - 1) M what 0 5199 (by decide) (by decide)) (by omega) (Nat.le_of_ble_eq_true rfl) dX10_buyer_18 (fun x_18 M_18 h_18 => ?_)
    obtain ⟨e_18, rfl⟩ := h_18
    have e_18 := e_18.symm
    subst e_18
    refine V_if_eq (tgt := 36) (pc := 21) C dX10_buyer_21 (by decide) (fun h_21 => ?_) (fun h_21 => ?_)
    · have h_21 := bJ_0.mp h_21
      refine V_bipush (v := -2) (pc := 36) C dX10_buyer_36 (by decide) ?_
      refine V_iret (pc := 38) C hr hlk dX10_buyer_38 ⟨_, rfl, ?_⟩
      rw [kBuyer, if_neg]
      · exact ⟨rfl, cK.rf, h0.keep⟩
      · first | exact fun e => h_9 e.1 | exact fun e => h_21 e.2.1 | exact fun e => h_33 e.2.2
    · have h_21 := bJ_1.mp h_21
      refine V_iload_n (pc := 24) C 3 dX10_buyer_24 rfl rfl ?_
      refine V_i2l (pc := 25) C dX10_buyer_25 ?_
      refine V_lconst (v := 0) (pc := 26) C dX10_buyer_26 (by decide) ?_
      refine V_ldc2 (pc := 27) C dX10_buyer_27 qk_X10_120 ?_
      refine call_X10_106 (pc := 30) C (c_in (d := d - 1) M asks 0 999 (by decide) (by decide)) (by omega) (Nat.le_of_ble_eq_true rfl) dX10_buyer_30 (fun x_30 M_30 h_30 => ?_)
      obtain ⟨e_30, rfl⟩ := h_30
      have e_30 := e_30.symm
      subst e_30
      refine V_if_ne (tgt := 39) (pc := 33) C dX10_buyer_33 (by decide) (fun h_33 => ?_) (fun h_33 => ?_)
      · have h_33 := bJ_1.mp h_33
        refine V_aload_n (pc := 39) C 0 dX10_buyer_39 rfl rfl ?_
        refine get_X10_103 (pc := 40) C (wg hG (by decide) (by decide)) dX10_buyer_40 ?_
        refine V_bipush (v := 7) (pc := 43) C dX10_buyer_43 (by decide) ?_
        refine V_icmp_ne (tgt := 51) (pc := 45) C dX10_buyer_45 (by decide) (fun h_45 => ?_) (fun h_45 => ?_)
        · rw [hm] at h_45
          have hlt : nb < 7 := Nat.lt_of_le_of_ne c1.1.2 (fun e => h_45 (by rw [e]; rfl))
          rw [kBuyer, if_pos ⟨h_9, h_21, h_33⟩, if_pos hlt]
          have hbr := buy_r h_21 h_33
          refine V_aload_n (pc := 51) C 0 dX10_buyer_51 rfl rfl ?_
          refine get_X10_23 (pc := 52) C (wg hG (by decide) (by decide)) dX10_buyer_52 ?_
          refine V_aload_n (pc := 55) C 0 dX10_buyer_55 rfl rfl ?_
          refine get_X10_103 (pc := 56) C (wg hG (by decide) (by decide)) dX10_buyer_56 ?_
          refine V_iload_n (pc := 59) C 1 dX10_buyer_59 rfl rfl ?_
          refine V_iast (pc := 60) C (nb) hm hlt (Nat.le_of_ble_eq_true rfl) (wg hG (by decide) (by decide)) (fun _ => wF_34) dX10_buyer_60 ?_
          refine V_aload_n (pc := 61) C 0 dX10_buyer_61 rfl rfl ?_
          refine get_X10_26 (pc := 62) C (wg hG (by decide) (by decide)) dX10_buyer_62 ?_
          refine V_aload_n (pc := 65) C 0 dX10_buyer_65 rfl rfl ?_
          refine get_X10_103 (pc := 66) C (wg hG (by decide) (by decide)) dX10_buyer_66 ?_
          refine V_iload_n (pc := 69) C 2 dX10_buyer_69 rfl rfl ?_
          refine V_bipush (v := 100) (pc := 70) C dX10_buyer_70 (by decide) ?_
          refine V_idiv (pc := 72) C dX10_buyer_72 (by decide) ?_
          refine V_iast (pc := 73) C (nb) (by rw [mset_at, if_neg (by omega)]; exact hm) hlt (Nat.le_of_ble_eq_true rfl) (wg hG (by decide) (by decide)) (fun _ => wF_35) dX10_buyer_73 ?_
          refine V_aload_n (pc := 74) C 0 dX10_buyer_74 rfl rfl ?_
          refine get_X10_29 (pc := 75) C (wg hG (by decide) (by decide)) dX10_buyer_75 ?_
          refine V_aload_n (pc := 78) C 0 dX10_buyer_78 rfl rfl ?_
          refine get_X10_103 (pc := 79) C (wg hG (by decide) (by decide)) dX10_buyer_79 ?_
          refine V_iload_n (pc := 82) C 2 dX10_buyer_82 rfl rfl ?_
          refine V_bipush (v := 100) (pc := 83) C dX10_buyer_83 (by decide) ?_
          refine V_irem (pc := 85) C dX10_buyer_85 (by decide) ?_
          refine V_iast (pc := 86) C (nb) (by rw [mset_at, if_neg (by omega), mset_at, if_neg (by omega)]; exact hm) hlt (Nat.le_of_ble_eq_true rfl) (wg hG (by decide) (by decide)) (fun _ => wF_36) dX10_buyer_86 ?_
          refine V_aload_n (pc := 87) C 0 dX10_buyer_87 rfl rfl ?_
          refine get_X10_32 (pc := 88) C (wg hG (by decide) (by decide)) dX10_buyer_88 ?_
          refine V_aload_n (pc := 91) C 0 dX10_buyer_91 rfl rfl ?_
          refine get_X10_103 (pc := 92) C (wg hG (by decide) (by decide)) dX10_buyer_92 ?_
          refine V_iload_n (pc := 95) C 3 dX10_buyer_95 rfl rfl ?_
          refine V_bipush (v := 10) (pc := 96) C dX10_buyer_96 (by decide) ?_
          refine V_idiv (pc := 98) C dX10_buyer_98 (by decide) ?_
          refine V_iast (pc := 99) C (nb) (by rw [mset_at, if_neg (by omega), mset_at, if_neg (by omega), mset_at, if_neg (by omega)]; exact hm) hlt (Nat.le_of_ble_eq_true rfl) (wg hG (by decide) (by decide)) (fun _ => wF_37) dX10_buyer_99 ?_
          refine V_aload_n (pc := 100) C 0 dX10_buyer_100 rfl rfl ?_
          refine get_X10_35 (pc := 101) C (wg hG (by decide) (by decide)) dX10_buyer_101 ?_
          refine V_aload_n (pc := 104) C 0 dX10_buyer_104 rfl rfl ?_
          refine get_X10_103 (pc := 105) C (wg hG (by decide) (by decide)) dX10_buyer_105 ?_
          refine V_iload_n (pc := 108) C 3 dX10_buyer_108 rfl rfl ?_
          refine V_bipush (v := 10) (pc := 109) C dX10_buyer_109 (by decide) ?_
          refine V_irem (pc := 111) C dX10_buyer_111 (by decide) ?_
          refine V_iast (pc := 112) C (nb) (by rw [mset_at, if_neg (by omega), mset_at, if_neg (by omega), mset_at, if_neg (by omega), mset_at, if_neg (by omega)]; exact hm) hlt (Nat.le_of_ble_eq_true rfl) (wg hG (by decide) (by decide)) (fun _ => wF_38) dX10_buyer_112 ?_
          refine V_aload_n (pc := 113) C 0 dX10_buyer_113 rfl rfl ?_
          refine V_dup (pc := 114) C dX10_buyer_114 rfl ?_
          refine get_X10_103 (pc := 115) C (wg hG (by decide) (by decide)) dX10_buyer_115 ?_
          refine V_iconst (v := 1) (pc := 118) C dX10_buyer_118 (by decide) ?_
          refine V_iadd (pc := 119) C dX10_buyer_119 ?_
          refine put_X10_103 (pc := 120) C (wg hG (by decide) (by decide)) dX10_buyer_120 ?_
          rw [show (mset (mset (mset (mset (mset M 34 0 nb kind) 35 0 nb (what / 100)) 36 0 nb (what - what / 100 * 100)) 37 0 nb (asks / 10)) 38 0 nb (asks - asks / 10 * 10)).1 30 0 12 + 1 = nI (nb + 1) by rw [mset_at, if_neg (by omega), mset_at, if_neg (by omega), mset_at, if_neg (by omega), mset_at, if_neg (by omega), mset_at, if_neg (by omega), hm, nI_1]]
          refine V_aload_n (pc := 123) C 0 dX10_buyer_123 rfl rfl ?_
          refine get_X10_103 (pc := 124) C (wg hG (by decide) (by decide)) dX10_buyer_124 ?_
          refine V_iconst (v := 1) (pc := 127) C dX10_buyer_127 (by decide) ?_
          refine V_isub (pc := 128) C dX10_buyer_128 ?_
          refine V_iret (pc := 129) C hr hlk dX10_buyer_129 ⟨_, rfl, ?_⟩
          refine ⟨?_, ?_, nb + 1, nt, tc, z, bo, r, ?_⟩
          · rw [mset_at, if_pos ⟨rfl, rfl, rfl⟩]
            exact nI_pred nb
          · exact ((((((cK.set _ (by decide)).tr (cK.set _ (by decide))).tr (cK.set _ (by decide))).tr (cK.set _ (by decide))).tr (cK.set _ (by decide))).tr (cK.set _ (by decide)))
          · refine ⟨?_, c2.fr (fun g i k e => by unfold kBuyerM; repeat rw [mset_at, if_neg (by omega)]), ?_, ?_, c5.fr (fun g i k e => by unfold kBuyerM; repeat rw [mset_at, if_neg (by omega)]) (fun g i k e => by repeat rw [mset_at, if_neg (by omega)]), c6.fr (fun g i k e => by unfold kBuyerM; repeat rw [mset_at, if_neg (by omega)]) (fun g i k e => by repeat rw [mset_at, if_neg (by omega)]), c7.fr (fun g i k e => by unfold kBuyerM; repeat rw [mset_at, if_neg (by omega)]) (fun g i k e => by repeat rw [mset_at, if_neg (by omega)]), c8.fr (fun g i k e => by unfold kBuyerM; repeat rw [mset_at, if_neg (by omega)]) (fun g i k e => by repeat rw [mset_at, if_neg (by omega)]), c9.fr (Nat.le_succ _) (Nat.le_refl _) (Nat.le_refl _) (fun g i k e => by unfold kBuyerM; repeat rw [mset_at, if_neg (by omega)]) (fun g i k e => by repeat rw [mset_at, if_neg (by omega)]), c10.fr (fun g i k e => by unfold kBuyerM; repeat rw [mset_at, if_neg (by omega)])⟩
            · refine ⟨⟨?_, by omega⟩, ⟨?_, c1.2.1.2⟩, ⟨?_, c1.2.2.1.2⟩, ?_⟩
              · rw [kBuyerM, mset_at, if_pos ⟨rfl, rfl, rfl⟩, nI_1]
              · simp [kBuyerM, mset_at]; exact c1.2.1.1
              · simp [kBuyerM, mset_at]; exact c1.2.2.1.1
              · simp [mset_at]; exact c1.2.2.2
            · intro k hk
              by_cases e : k = nb
              · subst e
                simp [kBuyerM, mset_at]
                exact ⟨h_9, hbr.1, hbr.2.1, hbr.2.2.1, hbr.2.2.2⟩
              · have := c3 k hk
                simp [kBuyerM, mset_at, e]
                exact this
            · refine ⟨⟨?_, ?_⟩, ?_, fun k hk => ?_⟩
              · simp [mset_at]
              · simp [mset_at]; exact c4.1.2
              · simp [kBuyerM, mset_at]; exact c4.2.1
              · have := c4.2.2 k hk
                by_cases e : k = nb
                · subst e
                  simp [kBuyerM, mset_at]
                  exact this.2
                · simp [kBuyerM, mset_at, e]
                  exact this
        · rw [hm] at h_45
          have hlt : ¬ nb < 7 := fun e => absurd ((nI_eq (b := 7) (by omega) (by decide)).mp h_45) (by omega)
          rw [kBuyer, if_pos ⟨h_9, h_21, h_33⟩, if_neg hlt]
          refine V_bipush (v := -4) (pc := 48) C dX10_buyer_48 (by decide) ?_
          refine V_iret (pc := 50) C hr hlk dX10_buyer_50 ⟨_, rfl, ?_⟩
          exact ⟨rfl, cK.rf, h0.keep⟩
      · have h_33 := bJ_0.mp h_33
        refine V_bipush (v := -2) (pc := 36) C dX10_buyer_36 (by decide) ?_
        refine V_iret (pc := 38) C hr hlk dX10_buyer_38 ⟨_, rfl, ?_⟩
        rw [kBuyer, if_neg]
        · exact ⟨rfl, cK.rf, h0.keep⟩
        · first | exact fun e => h_9 e.1 | exact fun e => h_21 e.2.1 | exact fun e => h_33 e.2.2
end S74
