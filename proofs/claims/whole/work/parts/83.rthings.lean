theorem nI_t {n : Nat} (h : n < 1000) : (nI n).toInt = n := by
  rw [nI_T, Int.bmod]
  omega
theorem sub_t {n k : Nat} (h : n < 1000) (hk : k < 1000) : (nI n - nI k).toInt = (n : Int) - k := by
  rw [Int32.toInt_sub, nI_t h, nI_t hk, Int.bmod]
  omega
theorem sub_tt {n k j : Nat} (h : n < 1000) (hk : k < 1000) (hj : j < 1000) : (nI n - nI k - nI j).toInt = (n : Int) - k - j := by
  rw [Int32.toInt_sub, sub_t h hk, nI_t hj, Int.bmod]
  omega
theorem th_sp {sz t : Nat} {a : Int32} (h40 : sz ≤ 40) (ht : t ≤ 6) (h : t = 0 ∨ (0 ≤ a ∧ a ≤ 40)) : (0 ≤ a ∧ a ≤ nI sz - 2 * nI t - 2) ↔ ((0 : Int32) ≤ 2 ∧ 2 ≤ nI sz ∧ 0 ≤ a + nI (2 * t) ∧ a + nI (2 * t) ≤ nI sz - 2) := by
  have h2 : (2 : Int32) * nI t = nI (2 * t) := by rw [show (2 : Int32) = nI 2 from rfl, pk_mul]
  have e2 : (2 : Int32) = nI 2 := rfl
  have z0 : (0 : Int32).toInt = 0 := rfl
  have d2 : (0 : Int32) ≤ 2 := by decide
  have f1 : (nI sz - nI (2 * t) - 2).toInt = (sz : Int) - (2 * t : Nat) - (2 : Nat) := by rw [e2]; exact sub_tt (by omega) (by omega) (by omega)
  have f2 : (nI sz - 2).toInt = (sz : Int) - (2 : Nat) := by rw [e2]; exact sub_t (by omega) (by omega)
  have f3 : (nI sz).toInt = sz := nI_t (by omega)
  have f4 : (2 : Int32).toInt = 2 := rfl
  rw [h2]
  rcases h with rfl | ⟨ha, hb⟩
  · have e : a + nI (2 * 0) = a := by rw [show nI (2 * 0) = 0 from rfl, Int32.add_zero]
    rw [e]
    simp only [Int32.le_iff_toInt_le, f1, f2, f3, f4, z0]
    omega
  · obtain ⟨n, hn, rfl⟩ := what_lt (n := 40) ⟨ha, hb⟩ (by decide)
    have f5 : (nI n).toInt = n := nI_t (by omega)
    have f6 : (nI n + nI (2 * t)).toInt = (n + 2 * t : Nat) := by rw [nI_add]; exact nI_t (by omega)
    simp only [Int32.le_iff_toInt_le, f1, f2, f3, f4, f5, f6, z0]
    omega
theorem th_x {sz t : Nat} {a : Int32} (h40 : sz ≤ 40) (ht : t ≤ 6) (h0 : 0 ≤ a) (h : a ≤ nI sz - 2 * nI t - 2) : ∃ x, x + 2 * t + 2 ≤ sz ∧ a = nI x := by
  have h2 : (2 : Int32) * nI t = nI (2 * t) := by rw [show (2 : Int32) = nI 2 from rfl, pk_mul]
  have e2 : (2 : Int32) = nI 2 := rfl
  have f1 : (nI sz - nI (2 * t) - 2).toInt = (sz : Int) - (2 * t : Nat) - (2 : Nat) := by rw [e2]; exact sub_tt (by omega) (by omega) (by omega)
  rw [h2] at h
  have h' := Int32.le_iff_toInt_le.mp h
  rw [f1] at h'
  obtain ⟨x, hx, rfl⟩ := what_lt (w := a) (n := 40) ⟨h0, Int32.le_iff_toInt_le.mpr (by rw [nI_t (n := 40) (by decide)]; omega)⟩ (by decide)
  rw [nI_t (by omega)] at h'
  exact ⟨x, by omega, rfl⟩
section S83
variable {l : Launch} {D : va_G} {cy : Nat → ClassId} {ad : Nat → Nat → Nat} {G d : Nat}
theorem lp_X10_things {p : Program} {e : Env} {s : State} {m : MethodId} {args : Array Value} {below : List Frame} {meth : Method} {c : Code} (C : CX p s m args c cX10_things 8 "CostsAgeModel" D cy ad G (wA ad G) (Rm d) d 0 0) (hr : meth.sig.returnType = (some .int)) (hlk : meth.locks = false) (hG : 56 ≤ G) (hd : 2 ≤ d) {k q sz : Nat} (hk : k < 4) (hq7 : q ≤ 7) (h40 : sz ≤ 40) {Ms : wS} {a1 at0 : Int32} (Qf : Int32 → wS → Prop) : ∀ (n t : Nat) (cnt : Int32) (M0 M : wS) (nb nt tc z bo r : Nat), t + n = q → cK Ms M → RR M0 M nb nt tc z bo r → M0.1 9 k 2 = nI sz → ¬ M0.1 9 k 1 = -1 → (t = 0 ∨ (0 ≤ at0 ∧ at0 ≤ 40)) → (∀ x M', RO (kTh k n cnt (at0 + nI (2 * t)) M0) Ms x M' → Qf x M') → V p l e (Rm d) s m args below meth c 8 D cy ad G (wA ad G) 0 0 (MQ below (wQ D cy ad G (rI Qf)) args s 0 0 (wA ad G)) 75 [(0, .ref (ad 30 0)), (1, .int (nI k)), (2, .int a1), (3, .int at0), (4, .int (nI q)), (5, .int cnt), (6, .int (nI t))] [] M := by
  intro n
  induction n with
  | zero =>
    intro t cnt M0 M nb nt tc z bo r ht hK h hs2 hmi h0 hq
    refine V_iload (pc := 75) C 6 dX10_things_75 rfl ?_
    refine V_iload (pc := 77) C 4 dX10_things_77 rfl ?_
    refine V_icmp_ge (tgt := 158) (pc := 79) C dX10_things_79 (by decide) (fun h_79 => ?_) (fun h_79 => ?_)
    · refine V_iload (pc := 158) C 5 dX10_things_158 rfl ?_
      refine V_iret (pc := 160) C hr hlk dX10_things_160 ⟨_, rfl, ?_⟩
      exact hq _ _ ⟨rfl, hK, h.keep⟩
    · exact absurd (nI_le (by omega) (by omega)) h_79
  | succ n ih =>
    intro t cnt M0 M nb nt tc z bo r ht hK h hs2 hmi h0 hq
    obtain ⟨sz', s1, s2, s3, s4⟩ := h.2.2.2.2.2.2.2.1 k hk
    obtain rfl : sz' = sz := (nI_eq (by omega) (by omega)).mp (s2.symm.trans hs2)
    obtain ⟨s5, s6, s7, s8⟩ := s4 hmi
    have hsp := th_sp (a := at0) h40 (show t ≤ 6 by omega) h0
    rw [kTh] at hq
    have ent : (M0.1 0 0 12).toNatClampNeg = nt := by rw [h.1.2.1.1]; exact nI_clamp (by have := h.1.2.1.2; omega)
    refine V_iload (pc := 75) C 6 dX10_things_75 rfl ?_
    refine V_iload (pc := 77) C 4 dX10_things_77 rfl ?_
    refine V_icmp_ge (tgt := 158) (pc := 79) C dX10_things_79 (by decide) (fun h_79 => ?_) (fun h_79 => ?_)
    · exact absurd h_79 (nI_ge (by omega) (by omega))
    · refine V_iload_n (pc := 82) C 3 dX10_things_82 rfl rfl ?_
      refine V_if_lt (tgt := 103) (pc := 83) C dX10_things_83 (by decide) (fun h_83 => ?_) (fun h_83 => ?_)
      · have h9 : ¬ kSp M0 k (at0 + nI (2 * t)) 2 = true := fun y => by
          have y2 := of_decide_eq_true y
          rw [hs2] at y2
          exact absurd h_83 (Int32.not_lt.mpr (hsp.mpr y2).1)
        rw [if_neg h9] at hq
        refine V_bipush (v := -12) (pc := 103) C dX10_things_103 (by decide) ?_
        refine V_iret (pc := 105) C hr hlk dX10_things_105 ⟨_, rfl, ?_⟩
        exact hq _ _ ⟨rfl, hK, h.keep⟩
      · refine V_iload_n (pc := 86) C 3 dX10_things_86 rfl rfl ?_
        refine V_aload_n (pc := 87) C 0 dX10_things_87 rfl rfl ?_
        refine get_X10_90 (pc := 88) C (wg hG (by decide) (by decide)) dX10_things_88 ?_
        refine V_iload_n (pc := 91) C 1 dX10_things_91 rfl rfl ?_
        refine V_iald (pc := 92) C (k) rfl hk (Nat.le_of_ble_eq_true rfl) (wg hG (by decide) (by decide)) wF_54 dX10_things_92 ?_
        refine V_iconst (v := 2) (pc := 93) C dX10_things_93 (by decide) ?_
        refine V_iload (pc := 94) C 6 dX10_things_94 rfl ?_
        refine V_imul (pc := 96) C dX10_things_96 ?_
        refine V_isub (pc := 97) C dX10_things_97 ?_
        refine V_iconst (v := 2) (pc := 98) C dX10_things_98 (by decide) ?_
        refine V_isub (pc := 99) C dX10_things_99 ?_
        rw [s7]
        refine V_icmp_le (tgt := 106) (pc := 100) C dX10_things_100 (by decide) (fun h_100 => ?_) (fun h_100 => ?_)
        · have h9 : kSp M0 k (at0 + nI (2 * t)) 2 = true := decide_eq_true (by rw [hs2]; exact hsp.mp ⟨Int32.not_lt.mp h_83, h_100⟩)
          rw [if_pos h9, ent] at hq
          obtain ⟨x, hx, rfl⟩ := th_x h40 (show t ≤ 6 by omega) (Int32.not_lt.mp h_83) h_100
          rw [nI_add, nI_clamp (by omega)] at hq
          refine V_bipush (v := 40) (pc := 106) C dX10_things_106 (by decide) ?_
          refine V_iload_n (pc := 108) C 1 dX10_things_108 rfl rfl ?_
          refine V_imul (pc := 109) C dX10_things_109 ?_
          refine V_iload_n (pc := 110) C 3 dX10_things_110 rfl rfl ?_
          refine V_iadd (pc := 111) C dX10_things_111 ?_
          refine V_iconst (v := 2) (pc := 112) C dX10_things_112 (by decide) ?_
          refine V_iload (pc := 113) C 6 dX10_things_113 rfl ?_
          refine V_imul (pc := 115) C dX10_things_115 ?_
          refine V_iadd (pc := 116) C dX10_things_116 ?_
          refine Vs_istore (lv' := [(0, _), (1, _), (2, _), (3, _), (4, _), (5, _), (6, _), (7, _)]) (pc := 117) C dX10_things_117 (by decide) rfl rfl ?_
          refine V_iload (pc := 119) C 5 dX10_things_119 rfl ?_
          refine V_aload_n (pc := 121) C 0 dX10_things_121 rfl rfl ?_
          refine V_aload_n (pc := 122) C 0 dX10_things_122 rfl rfl ?_
          refine get_X10_93 (pc := 123) C (wg hG (by decide) (by decide)) dX10_things_123 ?_
          refine V_iload (pc := 126) C 7 dX10_things_126 rfl ?_
          refine V_iald (pc := 128) C (40 * k + (x + 2 * t)) (by rw [show (40 : Int32) = nI 40 from rfl, show (2 : Int32) = nI 2 from rfl, pk_mul, pk_mul, nI_add, nI_add]; exact congrArg nI (by omega)) (by omega) (Nat.le_of_ble_eq_true rfl) (wg hG (by decide) (by decide)) wF_55 dX10_things_128 ?_
          refine V_aload_n (pc := 129) C 0 dX10_things_129 rfl rfl ?_
          refine get_X10_93 (pc := 130) C (wg hG (by decide) (by decide)) dX10_things_130 ?_
          refine V_iload (pc := 133) C 7 dX10_things_133 rfl ?_
          refine V_iconst (v := 1) (pc := 135) C dX10_things_135 (by decide) ?_
          refine V_iadd (pc := 136) C dX10_things_136 ?_
          refine V_iald (pc := 137) C (40 * k + (x + 2 * t + 1)) (by rw [show (40 : Int32) = nI 40 from rfl, show (2 : Int32) = nI 2 from rfl, pk_mul, pk_mul, nI_add, nI_add, nI_1]; exact congrArg nI (by omega)) (by omega) (Nat.le_of_ble_eq_true rfl) (wg hG (by decide) (by decide)) wF_55 dX10_things_137 ?_
          rw [s8 (x + 2 * t) (by omega), s8 (x + 2 * t + 1) (by omega)]
          refine call_X10_359 (pc := 138) C (o_thing (d := d - 1) hG (by omega) h _ _) (by omega) (wg hG (by decide) (by decide)) (Nat.le_of_ble_eq_true rfl) dX10_things_138 (fun x_138 M_138 h_138 => ?_)
          obtain ⟨w1, w2, nb2, nt2, tc2, z2, bo2, r2, w3⟩ := h_138
          rw [w1]
          refine V_if_lt (tgt := 148) (pc := 141) C dX10_things_141 (by decide) (fun h_141 => ?_) (fun h_141 => ?_)
          · refine V_iconst (v := 0) (pc := 148) C dX10_things_148 (by decide) ?_
            refine V_iadd (pc := 149) C dX10_things_149 ?_
            refine Vs_istore (lv' := [(0, _), (1, _), (2, _), (3, _), (4, _), (5, _), (6, _), (7, _)]) (pc := 150) C dX10_things_150 (by decide) rfl rfl ?_
            refine Vs_iinc (v := nI (t + 1)) (lv' := [(0, _), (1, _), (2, _), (3, _), (4, _), (5, _), (6, _), (7, _)]) (pc := 152) C 6 dX10_things_152 rfl (by decide) rfl (nI_i1 (t)) rfl ?_
            refine V_goto (tgt := 75) (pc := 155) C dX10_things_155 (by decide) ?_
            refine V_loc (lv' := [(0, _), (1, _), (2, _), (3, _), (4, _), (5, _), (6, _)]) [0, 1, 2, 3, 4, 5, 6] rfl ?_
            refine ih (t + 1) _ _ _ nb2 nt2 tc2 z2 bo2 r2 (by omega) (hK.tr w2) w3 ?_ ?_ (Or.inr ⟨nI_pos' (by omega), nI_le (b := 40) (by omega) (by decide)⟩) (fun x' M' g => hq x' M' ?_)
            · rw [kThing_oth M0 nt _ _ (by decide)]; exact hs2
            · rw [kThing_oth M0 nt _ _ (by decide)]; exact hmi
            · rw [if_pos h_141, show nI (x + 2 * t) + 2 = nI x + nI (2 * (t + 1)) by rw [show (2 : Int32) = nI 2 from rfl, nI_add, nI_add]; exact congrArg nI (by omega)]
              exact g
          · refine V_iconst (v := 1) (pc := 144) C dX10_things_144 (by decide) ?_
            refine V_goto (tgt := 149) (pc := 145) C dX10_things_145 (by decide) ?_
            refine V_iadd (pc := 149) C dX10_things_149 ?_
            refine Vs_istore (lv' := [(0, _), (1, _), (2, _), (3, _), (4, _), (5, _), (6, _), (7, _)]) (pc := 150) C dX10_things_150 (by decide) rfl rfl ?_
            refine Vs_iinc (v := nI (t + 1)) (lv' := [(0, _), (1, _), (2, _), (3, _), (4, _), (5, _), (6, _), (7, _)]) (pc := 152) C 6 dX10_things_152 rfl (by decide) rfl (nI_i1 (t)) rfl ?_
            refine V_goto (tgt := 75) (pc := 155) C dX10_things_155 (by decide) ?_
            refine V_loc (lv' := [(0, _), (1, _), (2, _), (3, _), (4, _), (5, _), (6, _)]) [0, 1, 2, 3, 4, 5, 6] rfl ?_
            refine ih (t + 1) _ _ _ nb2 nt2 tc2 z2 bo2 r2 (by omega) (hK.tr w2) w3 ?_ ?_ (Or.inr ⟨nI_pos' (by omega), nI_le (b := 40) (by omega) (by decide)⟩) (fun x' M' g => hq x' M' ?_)
            · rw [kThing_oth M0 nt _ _ (by decide)]; exact hs2
            · rw [kThing_oth M0 nt _ _ (by decide)]; exact hmi
            · rw [if_neg h_141, show nI (x + 2 * t) + 2 = nI x + nI (2 * (t + 1)) by rw [show (2 : Int32) = nI 2 from rfl, nI_add, nI_add]; exact congrArg nI (by omega)]
              exact g
        · have h9 : ¬ kSp M0 k (at0 + nI (2 * t)) 2 = true := fun y => by
            have y2 := of_decide_eq_true y
            rw [hs2] at y2
            exact absurd (hsp.mpr y2).2 h_100
          rw [if_neg h9] at hq
          refine V_bipush (v := -12) (pc := 103) C dX10_things_103 (by decide) ?_
          refine V_iret (pc := 105) C hr hlk dX10_things_105 ⟨_, rfl, ?_⟩
          exact hq _ _ ⟨rfl, hK, h.keep⟩
theorem o_things (hG : 56 ≤ G) (hd : 2 ≤ d) {M0 M : wS} {nb nt tc z bo r : Nat} (h : RR M0 M nb nt tc z bo r) (s0 sort at0 v : Int32) : Ctr l D cy ad G d yX10_things cX10_things 8 (some .int) [.ref (ad 30 0), .int s0, .int sort, .int at0, .int v] M (rI fun x M' => RO (kThings M0 s0 sort at0 v) M x M') := by
  refine Ctr.of (lv0 := [(0, _), (1, _), (2, _), (3, _), (4, _)]) (by decide) (Nat.le_of_ble_eq_true rfl) rfl ?_
  intro p e s m args below meth c C hr hlk _
  have C : CX p s m args c cX10_things 8 "CostsAgeModel" D cy ad G (wA ad G) (Rm d) d 0 0 := C
  refine V_iload_n (pc := 0) C 1 dX10_things_0 rfl rfl ?_
  refine call_X10_326 (pc := 1) C (c_X10_isSheet (d := d - 1) hG (by omega) M s0) (by omega) (Nat.le_of_ble_eq_true rfl) dX10_things_1 (fun x_1 M_1 h_1 => ?_)
  obtain ⟨e_1, rfl⟩ := h_1
  have e_1 := e_1.symm
  subst e_1
  refine V_if_eq (tgt := 32) (pc := 4) C dX10_things_4 (by decide) (fun h_4 => ?_) (fun h_4 => ?_)
  · have h_4 := bJ_0.mp h_4
    refine V_bipush (v := -2) (pc := 32) C dX10_things_32 (by decide) ?_
    refine V_iret (pc := 34) C hr hlk dX10_things_34 ⟨_, rfl, ?_⟩
    rw [kThings, if_neg (fun e => h_4 e.1)]
    exact ⟨rfl, cK.rf, h.keep⟩
  · have h_4 := bJ_1.mp h_4
    obtain ⟨k, hk, rfl⟩ := ix_of (n := 4) h_4.1 h_4.2 (by decide)
    have ek : (nI k).toNatClampNeg = k := nI_clamp (by omega)
    obtain ⟨sz, s1, s2, s3, s4⟩ := h.2.2.2.2.2.2.2.1 k hk
    refine V_iload_n (pc := 7) C 2 dX10_things_7 rfl rfl ?_
    refine V_i2l (pc := 8) C dX10_things_8 ?_
    refine V_lconst (v := 0) (pc := 9) C dX10_things_9 (by decide) ?_
    refine V_ldc2 (pc := 10) C dX10_things_10 qk_X10_355 ?_
    refine call_X10_106 (pc := 13) C (c_in (d := d - 1) M sort 0 2 (by decide) (by decide)) (by omega) (Nat.le_of_ble_eq_true rfl) dX10_things_13 (fun x_13 M_13 h_13 => ?_)
    obtain ⟨e_13, rfl⟩ := h_13
    have e_13 := e_13.symm
    subst e_13
    refine V_if_eq (tgt := 32) (pc := 16) C dX10_things_16 (by decide) (fun h_16 => ?_) (fun h_16 => ?_)
    · have h_16 := bJ_0.mp h_16
      refine V_bipush (v := -2) (pc := 32) C dX10_things_32 (by decide) ?_
      refine V_iret (pc := 34) C hr hlk dX10_things_34 ⟨_, rfl, ?_⟩
      rw [kThings, if_neg (fun e => h_16 e.2.1)]
      exact ⟨rfl, cK.rf, h.keep⟩
    · have h_16 := bJ_1.mp h_16
      refine V_iload (pc := 19) C 4 dX10_things_19 rfl ?_
      refine V_i2l (pc := 21) C dX10_things_21 ?_
      refine V_lconst (v := 0) (pc := 22) C dX10_things_22 (by decide) ?_
      refine V_ldc2 (pc := 23) C dX10_things_23 qk_X10_357 ?_
      refine call_X10_106 (pc := 26) C (c_in (d := d - 1) M v 0 7 (by decide) (by decide)) (by omega) (Nat.le_of_ble_eq_true rfl) dX10_things_26 (fun x_26 M_26 h_26 => ?_)
      obtain ⟨e_26, rfl⟩ := h_26
      have e_26 := e_26.symm
      subst e_26
      refine V_if_ne (tgt := 35) (pc := 29) C dX10_things_29 (by decide) (fun h_29 => ?_) (fun h_29 => ?_)
      · have h_29 := bJ_1.mp h_29
        obtain ⟨q, hq, rfl⟩ := what_lt (n := 7) h_29 (by decide)
        rw [kThings, if_pos ⟨h_4, h_16, h_29⟩, ek, nI_clamp (by omega)]
        refine V_aload_n (pc := 35) C 0 dX10_things_35 rfl rfl ?_
        refine get_X10_83 (pc := 36) C (wg hG (by decide) (by decide)) dX10_things_36 ?_
        refine V_iload_n (pc := 39) C 1 dX10_things_39 rfl rfl ?_
        refine V_zald (pc := 40) C (k) rfl hk (Nat.le_of_ble_eq_true rfl) (wg hG (by decide) (by decide)) wF_52 dX10_things_40 ?_
        rw [s3]
        refine V_if_eq (tgt := 57) (pc := 41) C dX10_things_41 (by decide) (fun h_41 => ?_) (fun h_41 => ?_)
        · have hp1 : M0.1 9 k 1 = -1 := Decidable.byContradiction (fun e => absurd ((bI_t e).trans h_41) (by decide))
          rw [if_pos hp1]
          refine V_aload_n (pc := 57) C 0 dX10_things_57 rfl rfl ?_
          refine get_X10_83 (pc := 58) C (wg hG (by decide) (by decide)) dX10_things_58 ?_
          refine V_iload_n (pc := 61) C 1 dX10_things_61 rfl rfl ?_
          refine V_zald (pc := 62) C (k) rfl hk (Nat.le_of_ble_eq_true rfl) (wg hG (by decide) (by decide)) wF_52 dX10_things_62 ?_
          rw [s3]
          refine V_if_ne (tgt := 69) (pc := 63) C dX10_things_63 (by decide) (fun h_63 => ?_) (fun h_63 => ?_)
          · exact absurd (by rw [← bI_f (fun y => y hp1)]) h_63
          · refine V_bipush (v := -11) (pc := 66) C dX10_things_66 (by decide) ?_
            refine V_iret (pc := 68) C hr hlk dX10_things_68 ⟨_, rfl, ?_⟩
            exact ⟨rfl, cK.rf, h.keep⟩
        · have hpr : ¬ M0.1 9 k 1 = -1 := fun e => h_41 (by rw [← bI_f (fun y => y e)])
          rw [if_neg hpr]
          refine V_aload_n (pc := 44) C 0 dX10_things_44 rfl rfl ?_
          refine get_X10_87 (pc := 45) C (wg hG (by decide) (by decide)) dX10_things_45 ?_
          refine V_iload_n (pc := 48) C 1 dX10_things_48 rfl rfl ?_
          refine V_iald (pc := 49) C (k) rfl hk (Nat.le_of_ble_eq_true rfl) (wg hG (by decide) (by decide)) wF_53 dX10_things_49 ?_
          refine V_iload_n (pc := 50) C 2 dX10_things_50 rfl rfl ?_
          rw [(s4 hpr).2.1]
          refine V_icmp_eq (tgt := 57) (pc := 51) C dX10_things_51 (by decide) (fun h_51 => ?_) (fun h_51 => ?_)
          · rw [if_pos h_51]
            refine V_aload_n (pc := 57) C 0 dX10_things_57 rfl rfl ?_
            refine get_X10_83 (pc := 58) C (wg hG (by decide) (by decide)) dX10_things_58 ?_
            refine V_iload_n (pc := 61) C 1 dX10_things_61 rfl rfl ?_
            refine V_zald (pc := 62) C (k) rfl hk (Nat.le_of_ble_eq_true rfl) (wg hG (by decide) (by decide)) wF_52 dX10_things_62 ?_
            rw [s3]
            refine V_if_ne (tgt := 69) (pc := 63) C dX10_things_63 (by decide) (fun h_63 => ?_) (fun h_63 => ?_)
            · refine V_iconst (v := 0) (pc := 69) C dX10_things_69 (by decide) ?_
              refine Vs_istore (lv' := [(0, _), (1, _), (2, _), (3, _), (4, _), (5, _)]) (pc := 70) C dX10_things_70 (by decide) rfl rfl ?_
              refine V_iconst (v := 0) (pc := 72) C dX10_things_72 (by decide) ?_
              refine Vs_istore (lv' := [(0, _), (1, _), (2, _), (3, _), (4, _), (5, _), (6, _)]) (pc := 73) C dX10_things_73 (by decide) rfl rfl ?_
              refine lp_X10_things C hr hlk hG hd hk (by omega) s1 (Ms := M) _ q 0 0 M0 M nb nt tc z bo r (by omega) cK.rf h s2 hpr (Or.inl rfl) (fun x M' g => ?_)
              rw [show nI (2 * 0) = 0 from rfl, Int32.add_zero] at g
              exact g
            · exact absurd h_63 h_41
          · rw [if_neg h_51]
            refine V_bipush (v := -13) (pc := 54) C dX10_things_54 (by decide) ?_
            refine V_iret (pc := 56) C hr hlk dX10_things_56 ⟨_, rfl, ?_⟩
            exact ⟨rfl, cK.rf, h.keep⟩
      · have h_29 := bJ_0.mp h_29
        refine V_bipush (v := -2) (pc := 32) C dX10_things_32 (by decide) ?_
        refine V_iret (pc := 34) C hr hlk dX10_things_34 ⟨_, rfl, ?_⟩
        rw [kThings, if_neg (fun e => h_29 e.2.2)]
        exact ⟨rfl, cK.rf, h.keep⟩
end S83
