theorem cp_sp {sz : Nat} {n i : Int32} (h40 : sz ≤ 40) : (0 ≤ n ∧ 0 ≤ i ∧ i ≤ nI sz - n) ↔ (0 ≤ n ∧ n ≤ nI sz ∧ 0 ≤ i ∧ i ≤ nI sz - n) := by
  have h1 := Int32.toInt_lt n
  have z0 : (0 : Int32).toInt = 0 := rfl
  have f3 : (nI sz).toInt = sz := nI_t (by omega)
  simp only [Int32.le_iff_toInt_le, Int32.toInt_sub, f3, z0, Int.bmod]
  omega
theorem cp_n {sz n : Nat} (h40 : sz ≤ 40) (hn : n < 100) (h : nI n ≤ nI sz) : n ≤ sz := by
  have h' := Int32.le_iff_toInt_le.mp h
  rw [nI_t (by omega), nI_t (by omega)] at h'
  omega
theorem cp_j {sz n : Nat} {i : Int32} (h40 : sz ≤ 40) (hn : n ≤ sz) (h : 0 ≤ i ∧ i ≤ nI sz - nI n) : ∃ x, x + n ≤ sz ∧ i = nI x := by
  have h' := Int32.le_iff_toInt_le.mp h.2
  rw [sub_t (by omega) (by omega)] at h'
  obtain ⟨x, hx, rfl⟩ := what_lt (w := i) (n := 40) ⟨h.1, Int32.le_iff_toInt_le.mpr (by rw [nI_t (n := 40) (by decide)]; omega)⟩ (by decide)
  rw [nI_t (by omega)] at h'
  exact ⟨x, by omega, rfl⟩
section S85
variable {l : Launch} {D : va_G} {cy : Nat → ClassId} {ad : Nat → Nat → Nat} {G d : Nat}
theorem RR.copy {M0 M M' : wS} {nb nt tc z bo r a i b j nn sa sb : Nat} (h : RR M0 M nb nt tc z bo r) (ha : a < 4) (hb : b < 4) (e1 : M0.1 9 a 2 = nI sa) (e2 : M0.1 9 b 2 = nI sb) (k1 : sa ≤ 40) (k2 : sb ≤ 40) (m1 : ¬ M0.1 9 a 1 = -1) (m2 : ¬ M0.1 9 b 1 = -1) (hi : i + nn ≤ sa) (hj : j + nn ≤ sb) (g1 : ∀ g x q, g ≠ 55 → M'.1 g x q = M.1 g x q) (g2 : ∀ q, M'.1 55 0 q = if 40 * b + j ≤ q ∧ q < 40 * b + j + nn then M.1 55 0 (q + (40 * a + i) - (40 * b + j)) else M.1 55 0 q) : RR (mrow M0 10 b (va_cpy (M0.1 10 a) (M0.1 10 b) i j nn)) M' nb nt tc z bo r := by
  refine h.sheets (fun g x q e => ?_) (fun g x q e => g1 g x q (by omega)) (fun s hs => ?_)
  · rw [mrow_at, if_neg (by omega)]
  have hS := h.2.2.2.2.2.2.2.1 s hs
  have hA := h.2.2.2.2.2.2.2.1 a ha
  have h9 : ∀ x q, (mrow M0 10 b (va_cpy (M0.1 10 a) (M0.1 10 b) i j nn)).1 9 x q = M0.1 9 x q := fun x q => by rw [mrow_at, if_neg (by omega)]
  by_cases e : s = b
  · subst e
    obtain ⟨n', s1, s2, s3, s4⟩ := hS
    obtain ⟨na, a1, a2, a3, a4⟩ := hA
    obtain rfl : n' = sb := (nI_eq (by omega) (by omega)).mp (s2.symm.trans e2)
    obtain rfl : na = sa := (nI_eq (by omega) (by omega)).mp (a2.symm.trans e1)
    refine ⟨n', s1, by rw [h9]; exact s2, by rw [h9, g1 52 0 s (by decide)]; exact s3, ?_⟩
    rw [h9, g1 53 0 s (by decide), g1 54 0 s (by decide)]
    intro _
    obtain ⟨t1, t2, t3, t4⟩ := s4 m2
    obtain ⟨-, -, -, u4⟩ := a4 m1
    refine ⟨t1, t2, t3, fun q hq => ?_⟩
    rw [g2, mrow_at, if_pos (show (10 : Nat) = 10 ∧ s = s from ⟨rfl, rfl⟩)]
    unfold va_cpy
    by_cases e3 : j ≤ q ∧ q < j + nn
    · rw [if_pos (by omega), if_pos e3, show 40 * s + q + (40 * a + i) - (40 * s + j) = 40 * a + (i + (q - j)) by omega]
      exact u4 _ (by omega)
    · rw [if_neg (by omega), if_neg e3]
      exact t4 q hq
  · obtain ⟨n, s1, s2, s3, s4⟩ := hS
    refine ⟨n, s1, by rw [h9]; exact s2, by rw [h9, g1 52 0 s (by decide)]; exact s3, ?_⟩
    rw [h9, g1 53 0 s (by decide), g1 54 0 s (by decide)]
    intro e3
    obtain ⟨t1, t2, t3, t4⟩ := s4 e3
    refine ⟨t1, t2, t3, fun q hq => ?_⟩
    rw [g2, mrow_at, if_neg (show ¬ ((10 : Nat) = 10 ∧ s = b) from fun y => e y.2), if_neg (by omega)]
    exact t4 q hq
theorem o_copy (hG : 56 ≤ G) (hd : 2 ≤ d) {M0 M : wS} {nb nt tc z bo r : Nat} (h : RR M0 M nb nt tc z bo r) (a i b j n : Int32) : Ctr l D cy ad G d yX10_copy cX10_copy 9 (some .int) [.ref (ad 30 0), .int a, .int i, .int b, .int j, .int n] M (rI fun x M' => RO (kCopy M0 a i b j n) M x M') := by
  have c8 := h.2.2.2.2.2.2.2.1
  refine Ctr.of (lv0 := [(0, _), (1, _), (2, _), (3, _), (4, _), (5, _)]) (by decide) (Nat.le_of_ble_eq_true rfl) rfl ?_
  intro p e s m args below meth c C hr hlk _
  have C : CX p s m args c cX10_copy 9 "CostsAgeModel" D cy ad G (wA ad G) (Rm d) d 0 0 := C
  refine V_iload_n (pc := 0) C 1 dX10_copy_0 rfl rfl ?_
  refine call_X10_326 (pc := 1) C (c_X10_isSheet (d := d - 1) hG (by omega) M a) (by omega) (Nat.le_of_ble_eq_true rfl) dX10_copy_1 (fun x_1 M_1 h_1 => ?_)
  obtain ⟨e_1, rfl⟩ := h_1
  have e_1 := e_1.symm
  subst e_1
  refine V_if_eq (tgt := 14) (pc := 4) C dX10_copy_4 (by decide) (fun h_4 => ?_) (fun h_4 => ?_)
  · have h_4 := bJ_0.mp h_4
    refine V_bipush (v := -2) (pc := 14) C dX10_copy_14 (by decide) ?_
    refine V_iret (pc := 16) C hr hlk dX10_copy_16 ⟨_, rfl, ?_⟩
    rw [kCopy, if_neg (fun y => h_4 y.1)]
    exact ⟨rfl, cK.rf, h.keep⟩
  · have h_4 := bJ_1.mp h_4
    obtain ⟨k, hk, rfl⟩ := ix_of (n := 4) h_4.1 h_4.2 (by decide)
    have ek : (nI k).toNatClampNeg = k := nI_clamp (by omega)
    obtain ⟨sa, s1, s2, s3, s4⟩ := c8 k hk
    refine V_iload_n (pc := 7) C 3 dX10_copy_7 rfl rfl ?_
    refine call_X10_326 (pc := 8) C (c_X10_isSheet (d := d - 1) hG (by omega) M b) (by omega) (Nat.le_of_ble_eq_true rfl) dX10_copy_8 (fun x_8 M_8 h_8 => ?_)
    obtain ⟨e_8, rfl⟩ := h_8
    have e_8 := e_8.symm
    subst e_8
    refine V_if_ne (tgt := 17) (pc := 11) C dX10_copy_11 (by decide) (fun h_11 => ?_) (fun h_11 => ?_)
    · have h_11 := bJ_1.mp h_11
      obtain ⟨k2, hk2, rfl⟩ := ix_of (n := 4) h_11.1 h_11.2 (by decide)
      have ek2 : (nI k2).toNatClampNeg = k2 := nI_clamp (by omega)
      obtain ⟨sb, t1, t2, t3, t4⟩ := c8 k2 hk2
      rw [kCopy, if_pos ⟨h_4, h_11⟩, ek, ek2]
      refine V_aload_n (pc := 17) C 0 dX10_copy_17 rfl rfl ?_
      refine get_X10_83 (pc := 18) C (wg hG (by decide) (by decide)) dX10_copy_18 ?_
      refine V_iload_n (pc := 21) C 1 dX10_copy_21 rfl rfl ?_
      refine V_zald (pc := 22) C (k) rfl hk (Nat.le_of_ble_eq_true rfl) (wg hG (by decide) (by decide)) wF_52 dX10_copy_22 ?_
      rw [s3]
      refine V_if_eq (tgt := 35) (pc := 23) C dX10_copy_23 (by decide) (fun h_23 => ?_) (fun h_23 => ?_)
      · have hp1 : M0.1 9 k 1 = -1 := Decidable.byContradiction (fun e => absurd ((bI_t e).trans h_23) (by decide))
        rw [if_pos (Or.inl hp1)]
        refine V_bipush (v := -11) (pc := 35) C dX10_copy_35 (by decide) ?_
        refine V_iret (pc := 37) C hr hlk dX10_copy_37 ⟨_, rfl, ?_⟩
        exact ⟨rfl, cK.rf, h.keep⟩
      · have hp1 : ¬ M0.1 9 k 1 = -1 := fun e => h_23 (by rw [← bI_f (fun y => y e)])
        refine V_aload_n (pc := 26) C 0 dX10_copy_26 rfl rfl ?_
        refine get_X10_83 (pc := 27) C (wg hG (by decide) (by decide)) dX10_copy_27 ?_
        refine V_iload_n (pc := 30) C 3 dX10_copy_30 rfl rfl ?_
        refine V_zald (pc := 31) C (k2) rfl hk2 (Nat.le_of_ble_eq_true rfl) (wg hG (by decide) (by decide)) wF_52 dX10_copy_31 ?_
        rw [t3]
        refine V_if_ne (tgt := 38) (pc := 32) C dX10_copy_32 (by decide) (fun h_32 => ?_) (fun h_32 => ?_)
        · have hp2 : ¬ M0.1 9 k2 1 = -1 := fun e => h_32 (by rw [← bI_f (fun y => y e)])
          rw [if_neg (fun y => y.elim hp1 hp2)]
          refine V_aload_n (pc := 38) C 0 dX10_copy_38 rfl rfl ?_
          refine get_X10_87 (pc := 39) C (wg hG (by decide) (by decide)) dX10_copy_39 ?_
          refine V_iload_n (pc := 42) C 1 dX10_copy_42 rfl rfl ?_
          refine V_iald (pc := 43) C (k) rfl hk (Nat.le_of_ble_eq_true rfl) (wg hG (by decide) (by decide)) wF_53 dX10_copy_43 ?_
          refine V_aload_n (pc := 44) C 0 dX10_copy_44 rfl rfl ?_
          refine get_X10_87 (pc := 45) C (wg hG (by decide) (by decide)) dX10_copy_45 ?_
          refine V_iload_n (pc := 48) C 3 dX10_copy_48 rfl rfl ?_
          refine V_iald (pc := 49) C (k2) rfl hk2 (Nat.le_of_ble_eq_true rfl) (wg hG (by decide) (by decide)) wF_53 dX10_copy_49 ?_
          rw [(s4 hp1).2.1, (t4 hp2).2.1]
          refine V_icmp_eq (tgt := 56) (pc := 50) C dX10_copy_50 (by decide) (fun h_50 => ?_) (fun h_50 => ?_)
          · rw [if_pos h_50]
            refine V_iload (pc := 56) C 5 dX10_copy_56 rfl ?_
            refine V_if_lt (tgt := 97) (pc := 58) C dX10_copy_58 (by decide) (fun h_58 => ?_) (fun h_58 => ?_)
            · refine V_bipush (v := -12) (pc := 97) C dX10_copy_97 (by decide) ?_
              refine V_iret (pc := 99) C hr hlk dX10_copy_99 ⟨_, rfl, ?_⟩
              rw [if_neg (fun y => absurd (of_decide_eq_true y.1).1 (Int32.not_le.mpr h_58))]
              exact ⟨rfl, cK.rf, h.keep⟩
            · refine V_iload_n (pc := 61) C 2 dX10_copy_61 rfl rfl ?_
              refine V_if_lt (tgt := 97) (pc := 62) C dX10_copy_62 (by decide) (fun h_62 => ?_) (fun h_62 => ?_)
              · refine V_bipush (v := -12) (pc := 97) C dX10_copy_97 (by decide) ?_
                refine V_iret (pc := 99) C hr hlk dX10_copy_99 ⟨_, rfl, ?_⟩
                rw [if_neg (fun y => absurd (of_decide_eq_true y.1).2.2.1 (Int32.not_le.mpr h_62))]
                exact ⟨rfl, cK.rf, h.keep⟩
              · refine V_iload (pc := 65) C 4 dX10_copy_65 rfl ?_
                refine V_if_lt (tgt := 97) (pc := 67) C dX10_copy_67 (by decide) (fun h_67 => ?_) (fun h_67 => ?_)
                · refine V_bipush (v := -12) (pc := 97) C dX10_copy_97 (by decide) ?_
                  refine V_iret (pc := 99) C hr hlk dX10_copy_99 ⟨_, rfl, ?_⟩
                  rw [if_neg (fun y => absurd (of_decide_eq_true y.2).2.2.1 (Int32.not_le.mpr h_67))]
                  exact ⟨rfl, cK.rf, h.keep⟩
                · refine V_iload_n (pc := 70) C 2 dX10_copy_70 rfl rfl ?_
                  refine V_aload_n (pc := 71) C 0 dX10_copy_71 rfl rfl ?_
                  refine get_X10_90 (pc := 72) C (wg hG (by decide) (by decide)) dX10_copy_72 ?_
                  refine V_iload_n (pc := 75) C 1 dX10_copy_75 rfl rfl ?_
                  refine V_iald (pc := 76) C (k) rfl hk (Nat.le_of_ble_eq_true rfl) (wg hG (by decide) (by decide)) wF_54 dX10_copy_76 ?_
                  refine V_iload (pc := 77) C 5 dX10_copy_77 rfl ?_
                  refine V_isub (pc := 79) C dX10_copy_79 ?_
                  rw [(s4 hp1).2.2.1]
                  refine V_icmp_gt (tgt := 97) (pc := 80) C dX10_copy_80 (by decide) (fun h_80 => ?_) (fun h_80 => ?_)
                  · refine V_bipush (v := -12) (pc := 97) C dX10_copy_97 (by decide) ?_
                    refine V_iret (pc := 99) C hr hlk dX10_copy_99 ⟨_, rfl, ?_⟩
                    rw [if_neg (fun y => absurd (s2 ▸ (of_decide_eq_true y.1).2.2.2) (Int32.not_le.mpr h_80))]
                    exact ⟨rfl, cK.rf, h.keep⟩
                  · refine V_iload (pc := 83) C 4 dX10_copy_83 rfl ?_
                    refine V_aload_n (pc := 85) C 0 dX10_copy_85 rfl rfl ?_
                    refine get_X10_90 (pc := 86) C (wg hG (by decide) (by decide)) dX10_copy_86 ?_
                    refine V_iload_n (pc := 89) C 3 dX10_copy_89 rfl rfl ?_
                    refine V_iald (pc := 90) C (k2) rfl hk2 (Nat.le_of_ble_eq_true rfl) (wg hG (by decide) (by decide)) wF_54 dX10_copy_90 ?_
                    refine V_iload (pc := 91) C 5 dX10_copy_91 rfl ?_
                    refine V_isub (pc := 93) C dX10_copy_93 ?_
                    rw [(t4 hp2).2.2.1]
                    refine V_icmp_le (tgt := 100) (pc := 94) C dX10_copy_94 (by decide) (fun h_94 => ?_) (fun h_94 => ?_)
                    · have H1 := (cp_sp s1).mp ⟨Int32.not_lt.mp h_58, Int32.not_lt.mp h_62, Int32.not_lt.mp h_80⟩
                      have H2 := (cp_sp t1).mp ⟨Int32.not_lt.mp h_58, Int32.not_lt.mp h_67, h_94⟩
                      rw [if_pos ⟨decide_eq_true (by rw [s2]; exact H1), decide_eq_true (by rw [t2]; exact H2)⟩]
                      obtain ⟨n0, hn0, rfl⟩ := what_lt (n := sa) ⟨H1.1, H1.2.1⟩ (by omega)
                      obtain ⟨i0, hi0, rfl⟩ := cp_j s1 hn0 H1.2.2
                      obtain ⟨j0, hj0, rfl⟩ := cp_j t1 (cp_n t1 (by omega) H2.2.1) H2.2.2
                      rw [nI_clamp (by omega), nI_clamp (by omega), nI_clamp (by omega)]
                      refine V_iload_n (pc := 100) C 1 dX10_copy_100 rfl rfl ?_
                      refine V_iload_n (pc := 101) C 3 dX10_copy_101 rfl rfl ?_
                      refine V_icmp_ne (tgt := 115) (pc := 102) C dX10_copy_102 (by decide) (fun h_102 => ?_) (fun h_102 => ?_)
                      · have hne : k ≠ k2 := fun e => h_102 (by rw [e])
                        refine V_iconst (v := 0) (pc := 115) C dX10_copy_115 (by decide) ?_
                        refine Vs_istore (lv' := [(0, _), (1, _), (2, _), (3, _), (4, _), (5, _), (6, _)]) (pc := 116) C dX10_copy_116 (by decide) rfl rfl ?_
                        refine V_iconst (v := 0) (pc := 118) C dX10_copy_118 (by decide) ?_
                        refine Vs_istore (lv' := [(0, _), (1, _), (2, _), (3, _), (4, _), (5, _), (6, _), (7, _)]) (pc := 119) C dX10_copy_119 (by decide) rfl rfl ?_
                        exact lp_X10_copy_up C hr hlk hG (Ms := M) hk hk2 (by omega) (by omega) rfl rfl (by omega) _ n0 0 M (by omega) (fun _ _ _ _ => rfl) (fun q => by rw [if_neg (by omega)]) (fun M' g1 g2 => ⟨rfl, fun g x e => funext fun q => g1 g x q (by omega), nb, nt, tc, z, bo, r, h.copy hk hk2 s2 t2 s1 t1 hp1 hp2 hi0 hj0 g1 g2⟩)
                      · have heq : k = k2 := (nI_eq (by omega) (by omega)).mp h_102
                        refine V_iload_n (pc := 105) C 2 dX10_copy_105 rfl rfl ?_
                        refine V_iload (pc := 106) C 4 dX10_copy_106 rfl ?_
                        refine V_icmp_ge (tgt := 115) (pc := 108) C dX10_copy_108 (by decide) (fun h_108 => ?_) (fun h_108 => ?_)
                        · have hge : j0 ≤ i0 := Nat.le_of_not_lt (fun e => absurd (nI_lt (b := j0) e (by omega)) (Int32.not_lt.mpr h_108))
                          refine V_iconst (v := 0) (pc := 115) C dX10_copy_115 (by decide) ?_
                          refine Vs_istore (lv' := [(0, _), (1, _), (2, _), (3, _), (4, _), (5, _), (6, _)]) (pc := 116) C dX10_copy_116 (by decide) rfl rfl ?_
                          refine V_iconst (v := 0) (pc := 118) C dX10_copy_118 (by decide) ?_
                          refine Vs_istore (lv' := [(0, _), (1, _), (2, _), (3, _), (4, _), (5, _), (6, _), (7, _)]) (pc := 119) C dX10_copy_119 (by decide) rfl rfl ?_
                          exact lp_X10_copy_up C hr hlk hG (Ms := M) hk hk2 (by omega) (by omega) rfl rfl (by omega) _ n0 0 M (by omega) (fun _ _ _ _ => rfl) (fun q => by rw [if_neg (by omega)]) (fun M' g1 g2 => ⟨rfl, fun g x e => funext fun q => g1 g x q (by omega), nb, nt, tc, z, bo, r, h.copy hk hk2 s2 t2 s1 t1 hp1 hp2 hi0 hj0 g1 g2⟩)
                        · have hlt : i0 < j0 := Nat.lt_of_not_le (fun e => h_108 (nI_le e (by omega)))
                          refine V_iconst (v := 1) (pc := 111) C dX10_copy_111 (by decide) ?_
                          refine V_goto (tgt := 116) (pc := 112) C dX10_copy_112 (by decide) ?_
                          refine Vs_istore (lv' := [(0, _), (1, _), (2, _), (3, _), (4, _), (5, _), (6, _)]) (pc := 116) C dX10_copy_116 (by decide) rfl rfl ?_
                          refine V_iconst (v := 0) (pc := 118) C dX10_copy_118 (by decide) ?_
                          refine Vs_istore (lv' := [(0, _), (1, _), (2, _), (3, _), (4, _), (5, _), (6, _), (7, _)]) (pc := 119) C dX10_copy_119 (by decide) rfl rfl ?_
                          exact lp_X10_copy_dn C hr hlk hG (Ms := M) hk hk2 (by omega) (by omega) rfl rfl (by omega) _ n0 0 M (by omega) (fun _ _ _ _ => rfl) (fun q => by rw [if_neg (by omega)]) (fun M' g1 g2 => ⟨rfl, fun g x e => funext fun q => g1 g x q (by omega), nb, nt, tc, z, bo, r, h.copy hk hk2 s2 t2 s1 t1 hp1 hp2 hi0 hj0 g1 g2⟩)
                    · refine V_bipush (v := -12) (pc := 97) C dX10_copy_97 (by decide) ?_
                      refine V_iret (pc := 99) C hr hlk dX10_copy_99 ⟨_, rfl, ?_⟩
                      rw [if_neg (fun y => absurd (t2 ▸ (of_decide_eq_true y.2).2.2.2) h_94)]
                      exact ⟨rfl, cK.rf, h.keep⟩
          · rw [if_neg h_50]
            refine V_bipush (v := -13) (pc := 53) C dX10_copy_53 (by decide) ?_
            refine V_iret (pc := 55) C hr hlk dX10_copy_55 ⟨_, rfl, ?_⟩
            exact ⟨rfl, cK.rf, h.keep⟩
        · have hp2 : M0.1 9 k2 1 = -1 := Decidable.byContradiction (fun e => absurd ((bI_t e).trans h_32) (by decide))
          rw [if_pos (Or.inr hp2)]
          refine V_bipush (v := -11) (pc := 35) C dX10_copy_35 (by decide) ?_
          refine V_iret (pc := 37) C hr hlk dX10_copy_37 ⟨_, rfl, ?_⟩
          exact ⟨rfl, cK.rf, h.keep⟩
    · have h_11 := bJ_0.mp h_11
      refine V_bipush (v := -2) (pc := 14) C dX10_copy_14 (by decide) ?_
      refine V_iret (pc := 16) C hr hlk dX10_copy_16 ⟨_, rfl, ?_⟩
      rw [kCopy, if_neg (fun y => h_11 y.2)]
      exact ⟨rfl, cK.rf, h.keep⟩
end S85
