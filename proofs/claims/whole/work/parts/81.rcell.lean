theorem sz_le {n : Nat} (h40 : n ≤ 40) {i : Int32} : (0 ≤ i ∧ i ≤ nI n - 1) ↔ (0 ≤ i ∧ i < nI n) := by
  constructor
  · rintro ⟨a, b⟩
    exact ⟨a, by (simp only [i32_eq, Int32.le_iff_toInt_le, Int32.lt_iff_toInt_lt, Int32.not_le, Int32.not_lt, Int32.toInt_add, Int32.toInt_sub, Int32.toInt_mul, Int32.toInt_neg, Int32.toInt_div, tdv2, tdv4, tdv10, tdv52, tdv100, nI_T, apply_ite Int32.toInt, Int.bmod, Int32.reduceToInt] at *; omega)⟩
  · rintro ⟨a, b⟩
    exact ⟨a, by (simp only [i32_eq, Int32.le_iff_toInt_le, Int32.lt_iff_toInt_lt, Int32.not_le, Int32.not_lt, Int32.toInt_add, Int32.toInt_sub, Int32.toInt_mul, Int32.toInt_neg, Int32.toInt_div, tdv2, tdv4, tdv10, tdv52, tdv100, nI_T, apply_ite Int32.toInt, Int.bmod, Int32.reduceToInt] at *; omega)⟩
theorem in_sz {n : Nat} (h40 : n ≤ 40) {i : Int32} (h : 0 ≤ i ∧ i ≤ nI n - 1) : 0 ≤ i ∧ i < nI n := (sz_le h40).mp h
theorem in_sz' {n : Nat} (h40 : n ≤ 40) {i : Int32} (h : 0 ≤ i ∧ i < nI n) : 0 ≤ i ∧ i ≤ nI n - 1 := (sz_le h40).mpr h
section S81
variable {l : Launch} {D : va_G} {cy : Nat → ClassId} {ad : Nat → Nat → Nat} {G d : Nat}
theorem RR.sheets {M0 M0' M M' : wS} {nb nt tc z bo r : Nat} (h : RR M0 M nb nt tc z bo r) (h0 : ∀ g i j, ¬ (g = 9 ∨ g = 10) → M0'.1 g i j = M0.1 g i j) (h1 : ∀ g i j, ¬ (52 ≤ g ∧ g ≤ 55) → M'.1 g i j = M.1 g i j) (h2 : pS M0' M') : RR M0' M' nb nt tc z bo r := by
  obtain ⟨c1, c2, c3, c4, c5, c6, c7, c8, c9, c10⟩ := h
  exact ⟨c1.fr (fun g i k e => h0 g i k (by omega)) (fun g i k e => h1 g i k (by omega)), c2.fr (fun g i k e => h0 g i k (by omega)), c3.fr (fun g i k e => h0 g i k (by omega)), c4.fr (fun g i k e => h0 g i k (by omega)) (fun g i k e => h1 g i k (by omega)), c5.fr (fun g i k e => h0 g i k (by omega)) (fun g i k e => h1 g i k (by omega)), c6.fr (fun g i k e => h0 g i k (by omega)) (fun g i k e => h1 g i k (by omega)), c7.fr (fun g i k e => h0 g i k (by omega)) (fun g i k e => h1 g i k (by omega)), h2, c9.fr (Nat.le_refl _) (Nat.le_refl _) (Nat.le_refl _) (fun g i k e => h0 g i k (by omega)) (fun g i k e => h1 g i k (by omega)), c10.fr (fun g i k e => h0 g i k (by omega))⟩
theorem RR.cell {M0 M : wS} {nb nt tc z bo r k n j : Nat} (h : RR M0 M nb nt tc z bo r) (hk : k < 4) (hn : M0.1 9 k 2 = nI n) (h40 : n ≤ 40) (hj : j < n) (v : Int32) : RR (mset M0 10 k j v) (mset M 55 0 (40 * k + j) v) nb nt tc z bo r := by
  refine h.sheets (fun g i k e => by repeat rw [mset_at, if_neg (by omega)]) (fun g i k e => by repeat rw [mset_at, if_neg (by omega)]) (fun s hs => ?_)
  have hS := h.2.2.2.2.2.2.2.1 s hs
  by_cases e : s = k
  · subst e
    obtain ⟨n', s1, s2, s3, s4⟩ := hS
    obtain rfl : n' = n := (nI_eq (by omega) (by omega)).mp (s2.symm.trans hn)
    refine ⟨n', s1, ?_, ?_, ?_⟩
    · rw [mset_at, if_neg (by omega)]; exact s2
    · rw [mset_at, if_neg (by omega), mset_at, if_neg (by omega)]; exact s3
    · rw [mset_at, if_neg (by omega), mset_at, if_neg (by omega), mset_at, if_neg (by omega)]
      intro e
      obtain ⟨t1, t2, t3, t4⟩ := s4 e
      refine ⟨t1, t2, t3, fun q hq => ?_⟩
      rw [mset_at, mset_at]
      by_cases e2 : q = j
      · rw [if_pos (by omega), if_pos (by omega)]
      · rw [if_neg (by omega), if_neg (by omega)]; exact t4 q hq
  · exact hS.fr (fun g i k e => by repeat rw [mset_at, if_neg (by omega)]) (fun g i k e => by repeat rw [mset_at, if_neg (by omega)])
theorem o_cell (hG : 56 ≤ G) (hd : 2 ≤ d) {M0 M : wS} {nb nt tc z bo r : Nat} (h : RR M0 M nb nt tc z bo r) (s0 i v : Int32) : Ctr l D cy ad G d yX10_cell cX10_cell 4 (some .int) [.ref (ad 30 0), .int s0, .int i, .int v] M (rI fun x M' => RO (kCell M0 s0 i v) M x M') := by
  have c8 := h.2.2.2.2.2.2.2.1
  refine Ctr.of (lv0 := [(0, _), (1, _), (2, _), (3, _)]) (by decide) (Nat.le_of_ble_eq_true rfl) rfl ?_
  intro p e s m args below meth c C hr hlk _
  have C : CX p s m args c cX10_cell 4 "CostsAgeModel" D cy ad G (wA ad G) (Rm d) d 0 0 := C
  refine V_iload_n (pc := 0) C 1 dX10_cell_0 rfl rfl ?_
  refine call_X10_326 (pc := 1) C (c_X10_isSheet (d := d - 1) hG (by omega) M s0) (by omega) (Nat.le_of_ble_eq_true rfl) dX10_cell_1 (fun x_1 M_1 h_1 => ?_)
  obtain ⟨e_1, rfl⟩ := h_1
  have e_1 := e_1.symm
  subst e_1
  refine V_if_ne (tgt := 10) (pc := 4) C dX10_cell_4 (by decide) (fun h_4 => ?_) (fun h_4 => ?_)
  · have h_4 := bJ_1.mp h_4
    obtain ⟨k, hk, rfl⟩ := ix_of (n := 4) h_4.1 h_4.2 (by decide)
    obtain ⟨sz, s1, s2, s3, s4⟩ := c8 k hk
    have ek : (nI k).toNatClampNeg = k := nI_clamp (by omega)
    rw [kCell, if_pos h_4, ek, s2]
    refine V_aload_n (pc := 10) C 0 dX10_cell_10 rfl rfl ?_
    refine get_X10_83 (pc := 11) C (wg hG (by decide) (by decide)) dX10_cell_11 ?_
    refine V_iload_n (pc := 14) C 1 dX10_cell_14 rfl rfl ?_
    refine V_zald (pc := 15) C (k) rfl hk (Nat.le_of_ble_eq_true rfl) (wg hG (by decide) (by decide)) wF_52 dX10_cell_15 ?_
    rw [s3]
    refine V_if_ne (tgt := 22) (pc := 16) C dX10_cell_16 (by decide) (fun h_16 => ?_) (fun h_16 => ?_)
    · have hpr : ¬ M0.1 9 k 1 = -1 := fun e => h_16 (by rw [← bI_f (fun y => y e)])
      obtain ⟨s5, s6, s7, s8⟩ := s4 hpr
      have hin := c_in (D := D) (cy := cy) (ad := ad) (G := G) (l := l) (d := d - 1) M i 0 (nI sz - 1) (a := 0) (b := (nI sz - 1).toInt64) (by decide) rfl
      rw [if_neg hpr]
      refine V_iload_n (pc := 22) C 2 dX10_cell_22 rfl rfl ?_
      refine V_i2l (pc := 23) C dX10_cell_23 ?_
      refine V_lconst (v := 0) (pc := 24) C dX10_cell_24 (by decide) ?_
      refine V_aload_n (pc := 25) C 0 dX10_cell_25 rfl rfl ?_
      refine get_X10_90 (pc := 26) C (wg hG (by decide) (by decide)) dX10_cell_26 ?_
      refine V_iload_n (pc := 29) C 1 dX10_cell_29 rfl rfl ?_
      refine V_iald (pc := 30) C (k) rfl hk (Nat.le_of_ble_eq_true rfl) (wg hG (by decide) (by decide)) wF_54 dX10_cell_30 ?_
      refine V_iconst (v := 1) (pc := 31) C dX10_cell_31 (by decide) ?_
      refine V_isub (pc := 32) C dX10_cell_32 ?_
      refine V_i2l (pc := 33) C dX10_cell_33 ?_
      rw [s7]
      refine call_X10_106 (pc := 34) C (hin) (by omega) (Nat.le_of_ble_eq_true rfl) dX10_cell_34 (fun x_34 M_34 h_34 => ?_)
      obtain ⟨e_34, rfl⟩ := h_34
      have e_34 := e_34.symm
      subst e_34
      refine V_if_ne (tgt := 43) (pc := 37) C dX10_cell_37 (by decide) (fun h_37 => ?_) (fun h_37 => ?_)
      · have h_37 := bJ_1.mp h_37
        have hlt : 0 ≤ i ∧ i < nI sz := in_sz s1 h_37
        obtain ⟨j, hj, rfl⟩ := ix_of (n := sz) hlt.1 hlt.2 (by omega)
        rw [if_pos hlt, nI_clamp (by omega)]
        refine V_aload_n (pc := 43) C 0 dX10_cell_43 rfl rfl ?_
        refine get_X10_93 (pc := 44) C (wg hG (by decide) (by decide)) dX10_cell_44 ?_
        refine V_bipush (v := 40) (pc := 47) C dX10_cell_47 (by decide) ?_
        refine V_iload_n (pc := 49) C 1 dX10_cell_49 rfl rfl ?_
        refine V_imul (pc := 50) C dX10_cell_50 ?_
        refine V_iload_n (pc := 51) C 2 dX10_cell_51 rfl rfl ?_
        refine V_iadd (pc := 52) C dX10_cell_52 ?_
        refine V_aload_n (pc := 53) C 0 dX10_cell_53 rfl rfl ?_
        refine get_X10_87 (pc := 54) C (wg hG (by decide) (by decide)) dX10_cell_54 ?_
        refine V_iload_n (pc := 57) C 1 dX10_cell_57 rfl rfl ?_
        refine V_iald (pc := 58) C (k) rfl hk (Nat.le_of_ble_eq_true rfl) (wg hG (by decide) (by decide)) wF_53 dX10_cell_58 ?_
        rw [s6]
        refine V_if_ne (tgt := 67) (pc := 59) C dX10_cell_59 (by decide) (fun h_59 => ?_) (fun h_59 => ?_)
        · refine V_aload_n (pc := 67) C 0 dX10_cell_67 rfl rfl ?_
          refine get_X10_87 (pc := 68) C (wg hG (by decide) (by decide)) dX10_cell_68 ?_
          refine V_iload_n (pc := 71) C 1 dX10_cell_71 rfl rfl ?_
          refine V_iald (pc := 72) C (k) rfl hk (Nat.le_of_ble_eq_true rfl) (wg hG (by decide) (by decide)) wF_53 dX10_cell_72 ?_
          refine V_iconst (v := 1) (pc := 73) C dX10_cell_73 (by decide) ?_
          rw [s6]
          refine V_icmp_ne (tgt := 82) (pc := 74) C dX10_cell_74 (by decide) (fun h_74 => ?_) (fun h_74 => ?_)
          · refine V_iload_n (pc := 82) C 3 dX10_cell_82 rfl rfl ?_
            refine V_iast (pc := 83) C (40 * k + j) (by rw [show (40 : Int32) = nI 40 from rfl, pk_mul, nI_add]) (by omega) (Nat.le_of_ble_eq_true rfl) (wg hG (by decide) (by decide)) (fun _ => wF_55) dX10_cell_83 ?_
            refine V_iconst (v := 1) (pc := 84) C dX10_cell_84 (by decide) ?_
            refine V_iret (pc := 85) C hr hlk dX10_cell_85 ⟨_, rfl, ?_⟩
            rw [kCut, if_neg h_59, if_neg h_74]
            exact ⟨rfl, cK.set _ (by decide), (h.cell hk s2 s1 hj _).keep⟩
          · refine V_iload_n (pc := 77) C 3 dX10_cell_77 rfl rfl ?_
            refine V_i2s (pc := 78) C dX10_cell_78 ?_
            refine V_goto (tgt := 83) (pc := 79) C dX10_cell_79 (by decide) ?_
            refine V_iast (pc := 83) C (40 * k + j) (by rw [show (40 : Int32) = nI 40 from rfl, pk_mul, nI_add]) (by omega) (Nat.le_of_ble_eq_true rfl) (wg hG (by decide) (by decide)) (fun _ => wF_55) dX10_cell_83 ?_
            refine V_iconst (v := 1) (pc := 84) C dX10_cell_84 (by decide) ?_
            refine V_iret (pc := 85) C hr hlk dX10_cell_85 ⟨_, rfl, ?_⟩
            rw [kCut, if_neg h_59, if_pos h_74]
            exact ⟨rfl, cK.set _ (by decide), (h.cell hk s2 s1 hj _).keep⟩
        · refine V_iload_n (pc := 62) C 3 dX10_cell_62 rfl rfl ?_
          refine V_i2b (pc := 63) C dX10_cell_63 ?_
          refine V_goto (tgt := 83) (pc := 64) C dX10_cell_64 (by decide) ?_
          refine V_iast (pc := 83) C (40 * k + j) (by rw [show (40 : Int32) = nI 40 from rfl, pk_mul, nI_add]) (by omega) (Nat.le_of_ble_eq_true rfl) (wg hG (by decide) (by decide)) (fun _ => wF_55) dX10_cell_83 ?_
          refine V_iconst (v := 1) (pc := 84) C dX10_cell_84 (by decide) ?_
          refine V_iret (pc := 85) C hr hlk dX10_cell_85 ⟨_, rfl, ?_⟩
          rw [kCut, if_pos h_59]
          exact ⟨rfl, cK.set _ (by decide), (h.cell hk s2 s1 hj _).keep⟩
      · have h_37 := bJ_0.mp h_37
        rw [if_neg (fun e => h_37 (in_sz' s1 e))]
        refine V_bipush (v := -12) (pc := 40) C dX10_cell_40 (by decide) ?_
        refine V_iret (pc := 42) C hr hlk dX10_cell_42 ⟨_, rfl, ?_⟩
        exact ⟨rfl, cK.rf, h.keep⟩
    · have hpr : M0.1 9 k 1 = -1 := Decidable.byContradiction (fun e => absurd ((bI_t e).trans h_16) (by decide))
      rw [if_pos hpr]
      refine V_bipush (v := -11) (pc := 19) C dX10_cell_19 (by decide) ?_
      refine V_iret (pc := 21) C hr hlk dX10_cell_21 ⟨_, rfl, ?_⟩
      exact ⟨rfl, cK.rf, h.keep⟩
  · have h_4 := bJ_0.mp h_4
    refine V_bipush (v := -2) (pc := 7) C dX10_cell_7 (by decide) ?_
    refine V_iret (pc := 9) C hr hlk dX10_cell_9 ⟨_, rfl, ?_⟩
    rw [kCell, if_neg h_4]
    exact ⟨rfl, cK.rf, h.keep⟩
end S81
