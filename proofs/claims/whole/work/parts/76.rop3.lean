section S76
variable {l : Launch} {D : va_G} {cy : Nat → ClassId} {ad : Nat → Nat → Nat} {G d : Nat}
theorem what_lt {w : Int32} {n : Nat} (h : 0 ≤ w ∧ w ≤ nI n) (hn : n < 1000) : ∃ k, k ≤ n ∧ w = nI k := by
  obtain ⟨k, hk, rfl⟩ := ix_of (n := n + 1) h.1 (by
    have := h.2
    rw [Int32.lt_iff_toInt_lt, nI_toInt (by omega)]
    rw [Int32.le_iff_toInt_le, nI_toInt (by omega)] at this
    omega) (by omega)
  exact ⟨k, by omega, rfl⟩
theorem o_set (hG : 56 ≤ G) (hd : 2 ≤ d) {M0 M : wS} {nb nt tc z bo r : Nat} (h : RR M0 M nb nt tc z bo r) (what i v : Int32) : Ctr l D cy ad G d yX10_set cX10_set 5 (some .int) [.ref (ad 30 0), .int what, .int i, .int v] M (rI fun x M' => RO (kSet M0 nb nt what i v) M x M') := by
  have c1 := h.1
  have c4 := h.2.2.2.1
  have hb7 := c1.1.2
  have ht7 := c1.2.1.2
  have k0 : what = 0 → kSet M0 nb nt what i v = (if (0 ≤ i ∧ i < nI nb) ∧ (0 ≤ v ∧ v ≤ 99) then (M0.1 27 0 i.toNatClampNeg, mset M0 27 0 i.toNatClampNeg v) else (-2, M0)) := fun e => by rw [kSet, if_pos e]
  have k1 : what = 1 → kSet M0 nb nt what i v = (if (0 ≤ i ∧ i < nI nb) ∧ (0 ≤ v ∧ v ≤ 99) then (M0.1 28 0 i.toNatClampNeg, mset M0 28 0 i.toNatClampNeg v) else (-2, M0)) := fun e => by rw [kSet, if_neg (by rw [e]; decide), if_pos e]
  have k2 : what = 2 → kSet M0 nb nt what i v = (if (0 ≤ i ∧ i < nI nb) ∧ (0 ≤ v ∧ v ≤ 51) then (M0.1 5 i.toNatClampNeg 1, mset M0 5 i.toNatClampNeg 1 v) else (-2, M0)) := fun e => by rw [kSet, if_neg (by rw [e]; decide), if_neg (by rw [e]; decide), if_pos e]
  have k3 : what = 3 → kSet M0 nb nt what i v = (if (0 ≤ i ∧ i < nI nt) ∧ (v = -1 ∨ 0 ≤ v ∧ v < nI nb) then (M0.1 29 0 i.toNatClampNeg, mset M0 29 0 i.toNatClampNeg v) else (-2, M0)) := fun e => by rw [kSet, if_neg (by rw [e]; decide), if_neg (by rw [e]; decide), if_neg (by rw [e]; decide), if_pos e]
  have k4 : what = 4 → kSet M0 nb nt what i v = (if (0 ≤ v ∧ v ≤ 63) then (M0.1 26 0 7, mset M0 26 0 7 v) else (-2, M0)) := fun e => by rw [kSet, if_neg (by rw [e]; decide), if_neg (by rw [e]; decide), if_neg (by rw [e]; decide), if_neg (by rw [e]; decide), if_pos e]
  have kn : ¬ (0 ≤ what ∧ what ≤ 4) → kSet M0 nb nt what i v = (-2, M0) := fun e => by
    rw [kSet, if_neg (fun y => e (by rw [y]; decide)), if_neg (fun y => e (by rw [y]; decide)), if_neg (fun y => e (by rw [y]; decide)), if_neg (fun y => e (by rw [y]; decide)), if_neg (fun y => e (by rw [y]; decide))]
  by_cases hw : 0 ≤ what ∧ what ≤ 4
  · obtain ⟨w, hw1, rfl⟩ := what_lt (n := 4) hw (by decide)
    have hc : w = 0 ∨ w = 1 ∨ w = 2 ∨ w = 3 ∨ w = 4 := by omega
    rcases hc with rfl | rfl | rfl | rfl | rfl
    · rw [show nI 0 = 0 from rfl] at *
      clear hw1
      refine Ctr.of (lv0 := [(0, _), (1, _), (2, _), (3, _)]) (by decide) (Nat.le_of_ble_eq_true rfl) rfl ?_
      intro p e s m args below meth c C hr hlk _
      have C : CX p s m args c cX10_set 5 "CostsAgeModel" D cy ad G (wA ad G) (Rm d) d 0 0 := C
      refine V_iload_n (pc := 0) C 1 dX10_set_0 rfl rfl ?_
      refine V_i2l (pc := 1) C dX10_set_1 ?_
      refine V_lconst (v := 0) (pc := 2) C dX10_set_2 (by decide) ?_
      refine V_ldc2 (pc := 3) C dX10_set_3 qk_X10_124 ?_
      refine call_X10_106 (pc := 6) C (c_in (d := d - 1) M _ 0 4 (by decide) (by decide)) (by omega) (Nat.le_of_ble_eq_true rfl) dX10_set_6 (fun x_6 M_6 h_6 => ?_)
      obtain ⟨e_6, rfl⟩ := h_6
      have e_6 := e_6.symm
      subst e_6
      refine V_if_ne (tgt := 15) (pc := 9) C dX10_set_9 (by decide) (fun h_9 => ?_) (fun h_9 => ?_)
      · have h_9 := bJ_1.mp h_9
        refine V_iload_n (pc := 15) C 1 dX10_set_15 rfl rfl ?_
        refine V_iconst (v := 4) (pc := 16) C dX10_set_16 (by decide) ?_
        refine V_icmp_ne (tgt := 49) (pc := 17) C dX10_set_17 (by decide) (fun _ => ?_) (fun h => absurd h (by decide))
        refine V_iload_n (pc := 49) C 1 dX10_set_49 rfl rfl ?_
        refine V_iconst (v := 3) (pc := 50) C dX10_set_50 (by decide) ?_
        refine V_icmp_ne (tgt := 96) (pc := 51) C dX10_set_51 (by decide) (fun _ => ?_) (fun h => absurd h (by decide))
        refine V_aload_n (pc := 96) C 0 dX10_set_96 rfl rfl ?_
        refine V_iload_n (pc := 97) C 2 dX10_set_97 rfl rfl ?_
        refine call_X10_132 (pc := 98) C (c_X10_isBuyer (d := d - 1) hG (by omega) M c4.1.1 hb7 i) (by omega) (wg hG (by decide) (by decide)) (Nat.le_of_ble_eq_true rfl) dX10_set_98 (fun x_98 M_98 h_98 => ?_)
        obtain ⟨e_98, rfl⟩ := h_98
        have e_98 := e_98.symm
        subst e_98
        refine V_if_eq (tgt := 127) (pc := 101) C dX10_set_101 (by decide) (fun h_101 => ?_) (fun h_101 => ?_)
        · have h_101 := bJ_0.mp h_101
          refine V_bipush (v := -2) (pc := 127) C dX10_set_127 (by decide) ?_
          refine V_iret (pc := 129) C hr hlk dX10_set_129 ⟨_, rfl, ?_⟩
          rw [k0 rfl]
          first | (rw [if_neg (fun e => h_101 e.1)]; exact ⟨rfl, cK.rf, h.keep⟩) | (rw [if_neg (fun e => h_124 e.2)]; exact ⟨rfl, cK.rf, h.keep⟩)
        · have h_101 := bJ_1.mp h_101
          obtain ⟨k, hk, rfl⟩ := ix_of h_101.1 h_101.2 (by omega)
          refine V_iload_n (pc := 104) C 3 dX10_set_104 rfl rfl ?_
          refine V_i2l (pc := 105) C dX10_set_105 ?_
          refine V_lconst (v := 0) (pc := 106) C dX10_set_106 (by decide) ?_
          refine V_iload_n (pc := 107) C 1 dX10_set_107 rfl rfl ?_
          refine V_iconst (v := 2) (pc := 108) C dX10_set_108 (by decide) ?_
          refine V_icmp_ne (tgt := 118) (pc := 109) C dX10_set_109 (by decide) (fun _ => ?_) (fun h => absurd h (by decide))
          refine V_ldc2 (pc := 118) C dX10_set_118 qk_X10_137 ?_
          refine call_X10_106 (pc := 121) C (c_in (d := d - 1) M v 0 99 (by decide) (by decide)) (by omega) (Nat.le_of_ble_eq_true rfl) dX10_set_121 (fun x_121 M_121 h_121 => ?_)
          obtain ⟨e_121, rfl⟩ := h_121
          have e_121 := e_121.symm
          subst e_121
          refine V_if_ne (tgt := 130) (pc := 124) C dX10_set_124 (by decide) (fun h_124 => ?_) (fun h_124 => ?_)
          · have h_124 := bJ_1.mp h_124
            refine V_iload_n (pc := 130) C 1 dX10_set_130 rfl rfl ?_
            refine V_if_ne (tgt := 143) (pc := 131) C dX10_set_131 (by decide) (fun h => absurd h (by decide)) (fun _ => ?_)
            refine V_aload_n (pc := 134) C 0 dX10_set_134 rfl rfl ?_
            refine get_X10_29 (pc := 135) C (wg hG (by decide) (by decide)) dX10_set_135 ?_
            refine V_iload_n (pc := 138) C 2 dX10_set_138 rfl rfl ?_
            refine V_iald (pc := 139) C (k) rfl (by omega) (Nat.le_of_ble_eq_true rfl) (wg hG (by decide) (by decide)) wF_36 dX10_set_139 ?_
            refine V_goto (tgt := 163) (pc := 140) C dX10_set_140 (by decide) ?_
            refine Vs_istore (lv' := [(0, _), (1, _), (2, _), (3, _), (4, _)]) (pc := 163) C dX10_set_163 (by decide) rfl rfl ?_
            refine V_iload_n (pc := 165) C 1 dX10_set_165 rfl rfl ?_
            refine V_if_ne (tgt := 179) (pc := 166) C dX10_set_166 (by decide) (fun h => absurd h (by decide)) (fun _ => ?_)
            refine V_aload_n (pc := 169) C 0 dX10_set_169 rfl rfl ?_
            refine get_X10_29 (pc := 170) C (wg hG (by decide) (by decide)) dX10_set_170 ?_
            refine V_iload_n (pc := 173) C 2 dX10_set_173 rfl rfl ?_
            refine V_iload_n (pc := 174) C 3 dX10_set_174 rfl rfl ?_
            refine V_iast (pc := 175) C (k) rfl (by omega) (Nat.le_of_ble_eq_true rfl) (wg hG (by decide) (by decide)) (fun _ => wF_36) dX10_set_175 ?_
            refine V_goto (tgt := 201) (pc := 176) C dX10_set_176 (by decide) ?_
            refine V_iload (pc := 201) C 4 dX10_set_201 rfl ?_
            refine V_iret (pc := 203) C hr hlk dX10_set_203 ⟨_, rfl, ?_⟩
            rw [k0 rfl, if_pos ⟨h_101, h_124⟩, nI_clamp (by omega)]
            exact ⟨(c4.2.2 k (by omega)).1.2.2.1, cK.set _ (by decide), (h.age (b := k) v h_124).keep⟩
          · have h_124 := bJ_0.mp h_124
            refine V_bipush (v := -2) (pc := 127) C dX10_set_127 (by decide) ?_
            refine V_iret (pc := 129) C hr hlk dX10_set_129 ⟨_, rfl, ?_⟩
            rw [k0 rfl]
            first | (rw [if_neg (fun e => h_101 e.1)]; exact ⟨rfl, cK.rf, h.keep⟩) | (rw [if_neg (fun e => h_124 e.2)]; exact ⟨rfl, cK.rf, h.keep⟩)
      · have h_9 := bJ_0.mp h_9
        exact absurd hw h_9
    · rw [show nI 1 = 1 from rfl] at *
      clear hw1
      refine Ctr.of (lv0 := [(0, _), (1, _), (2, _), (3, _)]) (by decide) (Nat.le_of_ble_eq_true rfl) rfl ?_
      intro p e s m args below meth c C hr hlk _
      have C : CX p s m args c cX10_set 5 "CostsAgeModel" D cy ad G (wA ad G) (Rm d) d 0 0 := C
      refine V_iload_n (pc := 0) C 1 dX10_set_0 rfl rfl ?_
      refine V_i2l (pc := 1) C dX10_set_1 ?_
      refine V_lconst (v := 0) (pc := 2) C dX10_set_2 (by decide) ?_
      refine V_ldc2 (pc := 3) C dX10_set_3 qk_X10_124 ?_
      refine call_X10_106 (pc := 6) C (c_in (d := d - 1) M _ 0 4 (by decide) (by decide)) (by omega) (Nat.le_of_ble_eq_true rfl) dX10_set_6 (fun x_6 M_6 h_6 => ?_)
      obtain ⟨e_6, rfl⟩ := h_6
      have e_6 := e_6.symm
      subst e_6
      refine V_if_ne (tgt := 15) (pc := 9) C dX10_set_9 (by decide) (fun h_9 => ?_) (fun h_9 => ?_)
      · have h_9 := bJ_1.mp h_9
        refine V_iload_n (pc := 15) C 1 dX10_set_15 rfl rfl ?_
        refine V_iconst (v := 4) (pc := 16) C dX10_set_16 (by decide) ?_
        refine V_icmp_ne (tgt := 49) (pc := 17) C dX10_set_17 (by decide) (fun _ => ?_) (fun h => absurd h (by decide))
        refine V_iload_n (pc := 49) C 1 dX10_set_49 rfl rfl ?_
        refine V_iconst (v := 3) (pc := 50) C dX10_set_50 (by decide) ?_
        refine V_icmp_ne (tgt := 96) (pc := 51) C dX10_set_51 (by decide) (fun _ => ?_) (fun h => absurd h (by decide))
        refine V_aload_n (pc := 96) C 0 dX10_set_96 rfl rfl ?_
        refine V_iload_n (pc := 97) C 2 dX10_set_97 rfl rfl ?_
        refine call_X10_132 (pc := 98) C (c_X10_isBuyer (d := d - 1) hG (by omega) M c4.1.1 hb7 i) (by omega) (wg hG (by decide) (by decide)) (Nat.le_of_ble_eq_true rfl) dX10_set_98 (fun x_98 M_98 h_98 => ?_)
        obtain ⟨e_98, rfl⟩ := h_98
        have e_98 := e_98.symm
        subst e_98
        refine V_if_eq (tgt := 127) (pc := 101) C dX10_set_101 (by decide) (fun h_101 => ?_) (fun h_101 => ?_)
        · have h_101 := bJ_0.mp h_101
          refine V_bipush (v := -2) (pc := 127) C dX10_set_127 (by decide) ?_
          refine V_iret (pc := 129) C hr hlk dX10_set_129 ⟨_, rfl, ?_⟩
          rw [k1 rfl]
          first | (rw [if_neg (fun e => h_101 e.1)]; exact ⟨rfl, cK.rf, h.keep⟩) | (rw [if_neg (fun e => h_124 e.2)]; exact ⟨rfl, cK.rf, h.keep⟩)
        · have h_101 := bJ_1.mp h_101
          obtain ⟨k, hk, rfl⟩ := ix_of h_101.1 h_101.2 (by omega)
          refine V_iload_n (pc := 104) C 3 dX10_set_104 rfl rfl ?_
          refine V_i2l (pc := 105) C dX10_set_105 ?_
          refine V_lconst (v := 0) (pc := 106) C dX10_set_106 (by decide) ?_
          refine V_iload_n (pc := 107) C 1 dX10_set_107 rfl rfl ?_
          refine V_iconst (v := 2) (pc := 108) C dX10_set_108 (by decide) ?_
          refine V_icmp_ne (tgt := 118) (pc := 109) C dX10_set_109 (by decide) (fun _ => ?_) (fun h => absurd h (by decide))
          refine V_ldc2 (pc := 118) C dX10_set_118 qk_X10_137 ?_
          refine call_X10_106 (pc := 121) C (c_in (d := d - 1) M v 0 99 (by decide) (by decide)) (by omega) (Nat.le_of_ble_eq_true rfl) dX10_set_121 (fun x_121 M_121 h_121 => ?_)
          obtain ⟨e_121, rfl⟩ := h_121
          have e_121 := e_121.symm
          subst e_121
          refine V_if_ne (tgt := 130) (pc := 124) C dX10_set_124 (by decide) (fun h_124 => ?_) (fun h_124 => ?_)
          · have h_124 := bJ_1.mp h_124
            refine V_iload_n (pc := 130) C 1 dX10_set_130 rfl rfl ?_
            refine V_if_ne (tgt := 143) (pc := 131) C dX10_set_131 (by decide) (fun _ => ?_) (fun h => absurd h (by decide))
            refine V_iload_n (pc := 143) C 1 dX10_set_143 rfl rfl ?_
            refine V_iconst (v := 1) (pc := 144) C dX10_set_144 (by decide) ?_
            refine V_icmp_ne (tgt := 157) (pc := 145) C dX10_set_145 (by decide) (fun h => absurd (by decide) h) (fun _ => ?_)
            refine V_aload_n (pc := 148) C 0 dX10_set_148 rfl rfl ?_
            refine get_X10_32 (pc := 149) C (wg hG (by decide) (by decide)) dX10_set_149 ?_
            refine V_iload_n (pc := 152) C 2 dX10_set_152 rfl rfl ?_
            refine V_iald (pc := 153) C (k) rfl (by omega) (Nat.le_of_ble_eq_true rfl) (wg hG (by decide) (by decide)) wF_37 dX10_set_153 ?_
            refine V_goto (tgt := 163) (pc := 154) C dX10_set_154 (by decide) ?_
            refine Vs_istore (lv' := [(0, _), (1, _), (2, _), (3, _), (4, _)]) (pc := 163) C dX10_set_163 (by decide) rfl rfl ?_
            refine V_iload_n (pc := 165) C 1 dX10_set_165 rfl rfl ?_
            refine V_if_ne (tgt := 179) (pc := 166) C dX10_set_166 (by decide) (fun _ => ?_) (fun h => absurd h (by decide))
            refine V_iload_n (pc := 179) C 1 dX10_set_179 rfl rfl ?_
            refine V_iconst (v := 1) (pc := 180) C dX10_set_180 (by decide) ?_
            refine V_icmp_ne (tgt := 194) (pc := 181) C dX10_set_181 (by decide) (fun h => absurd (by decide) h) (fun _ => ?_)
            refine V_aload_n (pc := 184) C 0 dX10_set_184 rfl rfl ?_
            refine get_X10_32 (pc := 185) C (wg hG (by decide) (by decide)) dX10_set_185 ?_
            refine V_iload_n (pc := 188) C 2 dX10_set_188 rfl rfl ?_
            refine V_iload_n (pc := 189) C 3 dX10_set_189 rfl rfl ?_
            refine V_iast (pc := 190) C (k) rfl (by omega) (Nat.le_of_ble_eq_true rfl) (wg hG (by decide) (by decide)) (fun _ => wF_37) dX10_set_190 ?_
            refine V_goto (tgt := 201) (pc := 191) C dX10_set_191 (by decide) ?_
            refine V_iload (pc := 201) C 4 dX10_set_201 rfl ?_
            refine V_iret (pc := 203) C hr hlk dX10_set_203 ⟨_, rfl, ?_⟩
            rw [k1 rfl, if_pos ⟨h_101, h_124⟩, nI_clamp (by omega)]
            exact ⟨(c4.2.2 k (by omega)).1.2.2.2.1, cK.set _ (by decide), (h.fee (b := k) v h_124).keep⟩
          · have h_124 := bJ_0.mp h_124
            refine V_bipush (v := -2) (pc := 127) C dX10_set_127 (by decide) ?_
            refine V_iret (pc := 129) C hr hlk dX10_set_129 ⟨_, rfl, ?_⟩
            rw [k1 rfl]
            first | (rw [if_neg (fun e => h_101 e.1)]; exact ⟨rfl, cK.rf, h.keep⟩) | (rw [if_neg (fun e => h_124 e.2)]; exact ⟨rfl, cK.rf, h.keep⟩)
      · have h_9 := bJ_0.mp h_9
        exact absurd hw h_9
    · rw [show nI 2 = 2 from rfl] at *
      clear hw1
      refine Ctr.of (lv0 := [(0, _), (1, _), (2, _), (3, _)]) (by decide) (Nat.le_of_ble_eq_true rfl) rfl ?_
      intro p e s m args below meth c C hr hlk _
      have C : CX p s m args c cX10_set 5 "CostsAgeModel" D cy ad G (wA ad G) (Rm d) d 0 0 := C
      refine V_iload_n (pc := 0) C 1 dX10_set_0 rfl rfl ?_
      refine V_i2l (pc := 1) C dX10_set_1 ?_
      refine V_lconst (v := 0) (pc := 2) C dX10_set_2 (by decide) ?_
      refine V_ldc2 (pc := 3) C dX10_set_3 qk_X10_124 ?_
      refine call_X10_106 (pc := 6) C (c_in (d := d - 1) M _ 0 4 (by decide) (by decide)) (by omega) (Nat.le_of_ble_eq_true rfl) dX10_set_6 (fun x_6 M_6 h_6 => ?_)
      obtain ⟨e_6, rfl⟩ := h_6
      have e_6 := e_6.symm
      subst e_6
      refine V_if_ne (tgt := 15) (pc := 9) C dX10_set_9 (by decide) (fun h_9 => ?_) (fun h_9 => ?_)
      · have h_9 := bJ_1.mp h_9
        refine V_iload_n (pc := 15) C 1 dX10_set_15 rfl rfl ?_
        refine V_iconst (v := 4) (pc := 16) C dX10_set_16 (by decide) ?_
        refine V_icmp_ne (tgt := 49) (pc := 17) C dX10_set_17 (by decide) (fun _ => ?_) (fun h => absurd h (by decide))
        refine V_iload_n (pc := 49) C 1 dX10_set_49 rfl rfl ?_
        refine V_iconst (v := 3) (pc := 50) C dX10_set_50 (by decide) ?_
        refine V_icmp_ne (tgt := 96) (pc := 51) C dX10_set_51 (by decide) (fun _ => ?_) (fun h => absurd h (by decide))
        refine V_aload_n (pc := 96) C 0 dX10_set_96 rfl rfl ?_
        refine V_iload_n (pc := 97) C 2 dX10_set_97 rfl rfl ?_
        refine call_X10_132 (pc := 98) C (c_X10_isBuyer (d := d - 1) hG (by omega) M c4.1.1 hb7 i) (by omega) (wg hG (by decide) (by decide)) (Nat.le_of_ble_eq_true rfl) dX10_set_98 (fun x_98 M_98 h_98 => ?_)
        obtain ⟨e_98, rfl⟩ := h_98
        have e_98 := e_98.symm
        subst e_98
        refine V_if_eq (tgt := 127) (pc := 101) C dX10_set_101 (by decide) (fun h_101 => ?_) (fun h_101 => ?_)
        · have h_101 := bJ_0.mp h_101
          refine V_bipush (v := -2) (pc := 127) C dX10_set_127 (by decide) ?_
          refine V_iret (pc := 129) C hr hlk dX10_set_129 ⟨_, rfl, ?_⟩
          rw [k2 rfl]
          first | (rw [if_neg (fun e => h_101 e.1)]; exact ⟨rfl, cK.rf, h.keep⟩) | (rw [if_neg (fun e => h_124 e.2)]; exact ⟨rfl, cK.rf, h.keep⟩)
        · have h_101 := bJ_1.mp h_101
          obtain ⟨k, hk, rfl⟩ := ix_of h_101.1 h_101.2 (by omega)
          refine V_iload_n (pc := 104) C 3 dX10_set_104 rfl rfl ?_
          refine V_i2l (pc := 105) C dX10_set_105 ?_
          refine V_lconst (v := 0) (pc := 106) C dX10_set_106 (by decide) ?_
          refine V_iload_n (pc := 107) C 1 dX10_set_107 rfl rfl ?_
          refine V_iconst (v := 2) (pc := 108) C dX10_set_108 (by decide) ?_
          refine V_icmp_ne (tgt := 118) (pc := 109) C dX10_set_109 (by decide) (fun h => absurd (by decide) h) (fun _ => ?_)
          refine V_ldc2 (pc := 112) C dX10_set_112 qk_X10_135 ?_
          refine V_goto (tgt := 121) (pc := 115) C dX10_set_115 (by decide) ?_
          refine call_X10_106 (pc := 121) C (c_in (d := d - 1) M v 0 51 (by decide) (by decide)) (by omega) (Nat.le_of_ble_eq_true rfl) dX10_set_121 (fun x_121 M_121 h_121 => ?_)
          obtain ⟨e_121, rfl⟩ := h_121
          have e_121 := e_121.symm
          subst e_121
          refine V_if_ne (tgt := 130) (pc := 124) C dX10_set_124 (by decide) (fun h_124 => ?_) (fun h_124 => ?_)
          · have h_124 := bJ_1.mp h_124
            refine V_iload_n (pc := 130) C 1 dX10_set_130 rfl rfl ?_
            refine V_if_ne (tgt := 143) (pc := 131) C dX10_set_131 (by decide) (fun _ => ?_) (fun h => absurd h (by decide))
            refine V_iload_n (pc := 143) C 1 dX10_set_143 rfl rfl ?_
            refine V_iconst (v := 1) (pc := 144) C dX10_set_144 (by decide) ?_
            refine V_icmp_ne (tgt := 157) (pc := 145) C dX10_set_145 (by decide) (fun _ => ?_) (fun h => absurd h (by decide))
            refine V_aload_n (pc := 157) C 0 dX10_set_157 rfl rfl ?_
            refine get_X10_26 (pc := 158) C (wg hG (by decide) (by decide)) dX10_set_158 ?_
            refine V_iload_n (pc := 161) C 2 dX10_set_161 rfl rfl ?_
            refine V_iald (pc := 162) C (k) rfl (by omega) (Nat.le_of_ble_eq_true rfl) (wg hG (by decide) (by decide)) wF_35 dX10_set_162 ?_
            refine Vs_istore (lv' := [(0, _), (1, _), (2, _), (3, _), (4, _)]) (pc := 163) C dX10_set_163 (by decide) rfl rfl ?_
            refine V_iload_n (pc := 165) C 1 dX10_set_165 rfl rfl ?_
            refine V_if_ne (tgt := 179) (pc := 166) C dX10_set_166 (by decide) (fun _ => ?_) (fun h => absurd h (by decide))
            refine V_iload_n (pc := 179) C 1 dX10_set_179 rfl rfl ?_
            refine V_iconst (v := 1) (pc := 180) C dX10_set_180 (by decide) ?_
            refine V_icmp_ne (tgt := 194) (pc := 181) C dX10_set_181 (by decide) (fun _ => ?_) (fun h => absurd h (by decide))
            refine V_aload_n (pc := 194) C 0 dX10_set_194 rfl rfl ?_
            refine get_X10_26 (pc := 195) C (wg hG (by decide) (by decide)) dX10_set_195 ?_
            refine V_iload_n (pc := 198) C 2 dX10_set_198 rfl rfl ?_
            refine V_iload_n (pc := 199) C 3 dX10_set_199 rfl rfl ?_
            refine V_iast (pc := 200) C (k) rfl (by omega) (Nat.le_of_ble_eq_true rfl) (wg hG (by decide) (by decide)) (fun _ => wF_35) dX10_set_200 ?_
            refine V_iload (pc := 201) C 4 dX10_set_201 rfl ?_
            refine V_iret (pc := 203) C hr hlk dX10_set_203 ⟨_, rfl, ?_⟩
            rw [k2 rfl, if_pos ⟨h_101, h_124⟩, nI_clamp (by omega)]
            exact ⟨(c4.2.2 k (by omega)).1.2.1, cK.set _ (by decide), (h.born (b := k) v h_124).keep⟩
          · have h_124 := bJ_0.mp h_124
            refine V_bipush (v := -2) (pc := 127) C dX10_set_127 (by decide) ?_
            refine V_iret (pc := 129) C hr hlk dX10_set_129 ⟨_, rfl, ?_⟩
            rw [k2 rfl]
            first | (rw [if_neg (fun e => h_101 e.1)]; exact ⟨rfl, cK.rf, h.keep⟩) | (rw [if_neg (fun e => h_124 e.2)]; exact ⟨rfl, cK.rf, h.keep⟩)
      · have h_9 := bJ_0.mp h_9
        exact absurd hw h_9
    · rw [show nI 3 = 3 from rfl] at *
      clear hw1
      refine Ctr.of (lv0 := [(0, _), (1, _), (2, _), (3, _)]) (by decide) (Nat.le_of_ble_eq_true rfl) rfl ?_
      intro p e s m args below meth c C hr hlk _
      have C : CX p s m args c cX10_set 5 "CostsAgeModel" D cy ad G (wA ad G) (Rm d) d 0 0 := C
      refine V_iload_n (pc := 0) C 1 dX10_set_0 rfl rfl ?_
      refine V_i2l (pc := 1) C dX10_set_1 ?_
      refine V_lconst (v := 0) (pc := 2) C dX10_set_2 (by decide) ?_
      refine V_ldc2 (pc := 3) C dX10_set_3 qk_X10_124 ?_
      refine call_X10_106 (pc := 6) C (c_in (d := d - 1) M _ 0 4 (by decide) (by decide)) (by omega) (Nat.le_of_ble_eq_true rfl) dX10_set_6 (fun x_6 M_6 h_6 => ?_)
      obtain ⟨e_6, rfl⟩ := h_6
      have e_6 := e_6.symm
      subst e_6
      refine V_if_ne (tgt := 15) (pc := 9) C dX10_set_9 (by decide) (fun h_9 => ?_) (fun h_9 => ?_)
      · have h_9 := bJ_1.mp h_9
        refine V_iload_n (pc := 15) C 1 dX10_set_15 rfl rfl ?_
        refine V_iconst (v := 4) (pc := 16) C dX10_set_16 (by decide) ?_
        refine V_icmp_ne (tgt := 49) (pc := 17) C dX10_set_17 (by decide) (fun _ => ?_) (fun h => absurd h (by decide))
        refine V_iload_n (pc := 49) C 1 dX10_set_49 rfl rfl ?_
        refine V_iconst (v := 3) (pc := 50) C dX10_set_50 (by decide) ?_
        refine V_icmp_ne (tgt := 96) (pc := 51) C dX10_set_51 (by decide) (fun h => absurd (by decide) h) (fun _ => ?_)
        refine V_aload_n (pc := 54) C 0 dX10_set_54 rfl rfl ?_
        refine V_iload_n (pc := 55) C 2 dX10_set_55 rfl rfl ?_
        refine call_X10_128 (pc := 56) C (c_X10_isThing (d := d - 1) hG (by omega) M c4.1.2 ht7 i) (by omega) (wg hG (by decide) (by decide)) (Nat.le_of_ble_eq_true rfl) dX10_set_56 (fun x_56 M_56 h_56 => ?_)
        obtain ⟨e_56, rfl⟩ := h_56
        have e_56 := e_56.symm
        subst e_56
        refine V_if_eq (tgt := 75) (pc := 59) C dX10_set_59 (by decide) (fun h_59 => ?_) (fun h_59 => ?_)
        · have h_59 := bJ_0.mp h_59
          refine V_bipush (v := -2) (pc := 75) C dX10_set_75 (by decide) ?_
          refine V_iret (pc := 77) C hr hlk dX10_set_77 ⟨_, rfl, ?_⟩
          first | (rw [k3 rfl, if_neg (fun e => h_59 e.1)]; exact ⟨rfl, cK.rf, h.keep⟩) | (rw [k3 rfl, if_neg (fun e => e.2.elim h_64 h_72)]; exact ⟨rfl, cK.rf, h.keep⟩)
        · have h_59 := bJ_1.mp h_59
          obtain ⟨k, hk, rfl⟩ := ix_of h_59.1 h_59.2 (by omega)
          refine V_iload_n (pc := 62) C 3 dX10_set_62 rfl rfl ?_
          refine V_iconst (v := -1) (pc := 63) C dX10_set_63 (by decide) ?_
          refine V_icmp_eq (tgt := 78) (pc := 64) C dX10_set_64 (by decide) (fun h_64 => ?_) (fun h_64 => ?_)
          · refine V_aload_n (pc := 78) C 0 dX10_set_78 rfl rfl ?_
            refine get_X10_44 (pc := 79) C (wg hG (by decide) (by decide)) dX10_set_79 ?_
            refine V_iload_n (pc := 82) C 2 dX10_set_82 rfl rfl ?_
            refine V_iald (pc := 83) C (k) rfl (by omega) (Nat.le_of_ble_eq_true rfl) (wg hG (by decide) (by decide)) wF_41 dX10_set_83 ?_
            refine Vs_istore (lv' := [(0, _), (1, _), (2, _), (3, _), (4, _)]) (pc := 84) C dX10_set_84 (by decide) rfl rfl ?_
            refine V_aload_n (pc := 86) C 0 dX10_set_86 rfl rfl ?_
            refine get_X10_44 (pc := 87) C (wg hG (by decide) (by decide)) dX10_set_87 ?_
            refine V_iload_n (pc := 90) C 2 dX10_set_90 rfl rfl ?_
            refine V_iload_n (pc := 91) C 3 dX10_set_91 rfl rfl ?_
            refine V_iast (pc := 92) C (k) rfl (by omega) (Nat.le_of_ble_eq_true rfl) (wg hG (by decide) (by decide)) (fun _ => wF_41) dX10_set_92 ?_
            refine V_iload (pc := 93) C 4 dX10_set_93 rfl ?_
            refine V_iret (pc := 95) C hr hlk dX10_set_95 ⟨_, rfl, ?_⟩
            have h_or : v = -1 ∨ 0 ≤ v ∧ v < nI nb := by first | exact Or.inl h_64 | exact Or.inr h_72
            rw [k3 rfl, if_pos ⟨h_59, h_or⟩, nI_clamp (by omega)]
            exact ⟨(c4.2.2 k (by omega)).2.2.2, cK.set _ (by decide), (h.owner (b := k) v).keep⟩
          · refine V_aload_n (pc := 67) C 0 dX10_set_67 rfl rfl ?_
            refine V_iload_n (pc := 68) C 3 dX10_set_68 rfl rfl ?_
            refine call_X10_132 (pc := 69) C (c_X10_isBuyer (d := d - 1) hG (by omega) M c4.1.1 hb7 v) (by omega) (wg hG (by decide) (by decide)) (Nat.le_of_ble_eq_true rfl) dX10_set_69 (fun x_69 M_69 h_69 => ?_)
            obtain ⟨e_69, rfl⟩ := h_69
            have e_69 := e_69.symm
            subst e_69
            refine V_if_ne (tgt := 78) (pc := 72) C dX10_set_72 (by decide) (fun h_72 => ?_) (fun h_72 => ?_)
            · have h_72 := bJ_1.mp h_72
              refine V_aload_n (pc := 78) C 0 dX10_set_78 rfl rfl ?_
              refine get_X10_44 (pc := 79) C (wg hG (by decide) (by decide)) dX10_set_79 ?_
              refine V_iload_n (pc := 82) C 2 dX10_set_82 rfl rfl ?_
              refine V_iald (pc := 83) C (k) rfl (by omega) (Nat.le_of_ble_eq_true rfl) (wg hG (by decide) (by decide)) wF_41 dX10_set_83 ?_
              refine Vs_istore (lv' := [(0, _), (1, _), (2, _), (3, _), (4, _)]) (pc := 84) C dX10_set_84 (by decide) rfl rfl ?_
              refine V_aload_n (pc := 86) C 0 dX10_set_86 rfl rfl ?_
              refine get_X10_44 (pc := 87) C (wg hG (by decide) (by decide)) dX10_set_87 ?_
              refine V_iload_n (pc := 90) C 2 dX10_set_90 rfl rfl ?_
              refine V_iload_n (pc := 91) C 3 dX10_set_91 rfl rfl ?_
              refine V_iast (pc := 92) C (k) rfl (by omega) (Nat.le_of_ble_eq_true rfl) (wg hG (by decide) (by decide)) (fun _ => wF_41) dX10_set_92 ?_
              refine V_iload (pc := 93) C 4 dX10_set_93 rfl ?_
              refine V_iret (pc := 95) C hr hlk dX10_set_95 ⟨_, rfl, ?_⟩
              have h_or : v = -1 ∨ 0 ≤ v ∧ v < nI nb := by first | exact Or.inl h_64 | exact Or.inr h_72
              rw [k3 rfl, if_pos ⟨h_59, h_or⟩, nI_clamp (by omega)]
              exact ⟨(c4.2.2 k (by omega)).2.2.2, cK.set _ (by decide), (h.owner (b := k) v).keep⟩
            · have h_72 := bJ_0.mp h_72
              refine V_bipush (v := -2) (pc := 75) C dX10_set_75 (by decide) ?_
              refine V_iret (pc := 77) C hr hlk dX10_set_77 ⟨_, rfl, ?_⟩
              first | (rw [k3 rfl, if_neg (fun e => h_59 e.1)]; exact ⟨rfl, cK.rf, h.keep⟩) | (rw [k3 rfl, if_neg (fun e => e.2.elim h_64 h_72)]; exact ⟨rfl, cK.rf, h.keep⟩)
      · have h_9 := bJ_0.mp h_9
        exact absurd hw h_9
    · rw [show nI 4 = 4 from rfl] at *
      clear hw1
      refine Ctr.of (lv0 := [(0, _), (1, _), (2, _), (3, _)]) (by decide) (Nat.le_of_ble_eq_true rfl) rfl ?_
      intro p e s m args below meth c C hr hlk _
      have C : CX p s m args c cX10_set 5 "CostsAgeModel" D cy ad G (wA ad G) (Rm d) d 0 0 := C
      refine V_iload_n (pc := 0) C 1 dX10_set_0 rfl rfl ?_
      refine V_i2l (pc := 1) C dX10_set_1 ?_
      refine V_lconst (v := 0) (pc := 2) C dX10_set_2 (by decide) ?_
      refine V_ldc2 (pc := 3) C dX10_set_3 qk_X10_124 ?_
      refine call_X10_106 (pc := 6) C (c_in (d := d - 1) M _ 0 4 (by decide) (by decide)) (by omega) (Nat.le_of_ble_eq_true rfl) dX10_set_6 (fun x_6 M_6 h_6 => ?_)
      obtain ⟨e_6, rfl⟩ := h_6
      have e_6 := e_6.symm
      subst e_6
      refine V_if_ne (tgt := 15) (pc := 9) C dX10_set_9 (by decide) (fun h_9 => ?_) (fun h_9 => ?_)
      · have h_9 := bJ_1.mp h_9
        refine V_iload_n (pc := 15) C 1 dX10_set_15 rfl rfl ?_
        refine V_iconst (v := 4) (pc := 16) C dX10_set_16 (by decide) ?_
        refine V_icmp_ne (tgt := 49) (pc := 17) C dX10_set_17 (by decide) (fun h => absurd (by decide) h) (fun _ => ?_)
        refine V_iload_n (pc := 20) C 3 dX10_set_20 rfl rfl ?_
        refine V_i2l (pc := 21) C dX10_set_21 ?_
        refine V_lconst (v := 0) (pc := 22) C dX10_set_22 (by decide) ?_
        refine V_ldc2 (pc := 23) C dX10_set_23 qk_X10_126 ?_
        refine call_X10_106 (pc := 26) C (c_in (d := d - 1) M v 0 63 (by decide) (by decide)) (by omega) (Nat.le_of_ble_eq_true rfl) dX10_set_26 (fun x_26 M_26 h_26 => ?_)
        obtain ⟨e_26, rfl⟩ := h_26
        have e_26 := e_26.symm
        subst e_26
        refine V_if_ne (tgt := 35) (pc := 29) C dX10_set_29 (by decide) (fun h_29 => ?_) (fun h_29 => ?_)
        · have h_29 := bJ_1.mp h_29
          refine V_aload_n (pc := 35) C 0 dX10_set_35 rfl rfl ?_
          refine get_X10_47 (pc := 36) C (wg hG (by decide) (by decide)) dX10_set_36 ?_
          refine Vs_istore (lv' := [(0, _), (1, _), (2, _), (3, _), (4, _)]) (pc := 39) C dX10_set_39 (by decide) rfl rfl ?_
          refine V_aload_n (pc := 41) C 0 dX10_set_41 rfl rfl ?_
          refine V_iload_n (pc := 42) C 3 dX10_set_42 rfl rfl ?_
          refine put_X10_47 (pc := 43) C (wg hG (by decide) (by decide)) dX10_set_43 ?_
          refine V_iload (pc := 46) C 4 dX10_set_46 rfl ?_
          refine V_iret (pc := 48) C hr hlk dX10_set_48 ⟨_, rfl, ?_⟩
          rw [k4 rfl, if_pos h_29]
          exact ⟨c4.2.1.2.2.1, cK.set _ (by decide), (h.carry v).keep⟩
        · have h_29 := bJ_0.mp h_29
          refine V_bipush (v := -2) (pc := 32) C dX10_set_32 (by decide) ?_
          refine V_iret (pc := 34) C hr hlk dX10_set_34 ⟨_, rfl, ?_⟩
          rw [k4 rfl, if_neg h_29]
          exact ⟨rfl, cK.rf, h.keep⟩
      · have h_9 := bJ_0.mp h_9
        exact absurd hw h_9
  · rw [kn hw]
    refine Ctr.of (lv0 := [(0, _), (1, _), (2, _), (3, _)]) (by decide) (Nat.le_of_ble_eq_true rfl) rfl ?_
    intro p e s m args below meth c C hr hlk _
    have C : CX p s m args c cX10_set 5 "CostsAgeModel" D cy ad G (wA ad G) (Rm d) d 0 0 := C
    refine V_iload_n (pc := 0) C 1 dX10_set_0 rfl rfl ?_
    refine V_i2l (pc := 1) C dX10_set_1 ?_
    refine V_lconst (v := 0) (pc := 2) C dX10_set_2 (by decide) ?_
    refine V_ldc2 (pc := 3) C dX10_set_3 qk_X10_124 ?_
    refine call_X10_106 (pc := 6) C (c_in (d := d - 1) M what 0 4 (by decide) (by decide)) (by omega) (Nat.le_of_ble_eq_true rfl) dX10_set_6 (fun x_6 M_6 h_6 => ?_)
    obtain ⟨e_6, rfl⟩ := h_6
    have e_6 := e_6.symm
    subst e_6
    refine V_if_ne (tgt := 15) (pc := 9) C dX10_set_9 (by decide) (fun h_9 => ?_) (fun h_9 => ?_)
    · have h_9 := bJ_1.mp h_9
      exact absurd h_9 hw
    · have h_9 := bJ_0.mp h_9
      refine V_bipush (v := -2) (pc := 12) C dX10_set_12 (by decide) ?_
      refine V_iret (pc := 14) C hr hlk dX10_set_14 ⟨_, rfl, ?_⟩
      exact ⟨rfl, cK.rf, h.keep⟩
theorem o_count (hG : 56 ≤ G) (hd : 1 ≤ d) {M0 M : wS} {nb nt tc z bo r : Nat} (h : RR M0 M nb nt tc z bo r) (w : Int32) {O : Nat} (hU : uO M0 nt O) : Ctr l D cy ad G d yX10_count cX10_count 2 (some .int) [.ref (ad 30 0), .int w] M (rI fun x M' => RO (kCount M0 w (nI (pc7 O)), M0) M x M') := by
  obtain ⟨c1, c2, c3, c4, c5, c6, -⟩ := id h
  have hlf : (1 <<< (M.1 30 0 16 &&& 31) - 1) &&& (M.1 30 0 17 ^^^ -1) = nI O := by
    rw [c4.1.2, c4.2.1.1, ← c1.2.1.1]
    exact hU.1
  have kn : ¬ (0 ≤ w ∧ w ≤ 9) → kCount M0 w (nI (pc7 O)) = -2 := fun e => by
    unfold kCount
    rw [if_neg (fun y => e (by rw [y]; decide)), if_neg (fun y => e (by rw [y]; decide)), if_neg (fun y => e (by rw [y]; decide)), if_neg (fun y => e (by rw [y]; decide)), if_neg (fun y => e (by rw [y]; decide)), if_neg (fun y => e (by rw [y]; decide)), if_neg (fun y => e (by rw [y]; decide)), if_neg (fun y => e (by rw [y]; decide)), if_neg (fun y => e (by rw [y]; decide)), if_neg (fun y => e (by rw [y]; decide))]
  by_cases hw : 0 ≤ w ∧ w ≤ 9
  · obtain ⟨k, hk, rfl⟩ := what_lt (n := 9) hw (by decide)
    have hc : k = 0 ∨ k = 1 ∨ k = 2 ∨ k = 3 ∨ k = 4 ∨ k = 5 ∨ k = 6 ∨ k = 7 ∨ k = 8 ∨ k = 9 := by omega
    rcases hc with rfl | rfl | rfl | rfl | rfl | rfl | rfl | rfl | rfl | rfl
    · rw [show nI 0 = 0 from rfl] at *
      clear hk
      refine Ctr.of (lv0 := [(0, _), (1, _)]) (by decide) (Nat.le_of_ble_eq_true rfl) rfl ?_
      intro p e s m args below meth c C hr hlk _
      have C : CX p s m args c cX10_count 2 "CostsAgeModel" D cy ad G (wA ad G) (Rm d) d 0 0 := C
      refine V_iload_n (pc := 0) C 1 dX10_count_0 rfl rfl ?_
      refine V_i2l (pc := 1) C dX10_count_1 ?_
      refine V_lconst (v := 0) (pc := 2) C dX10_count_2 (by decide) ?_
      refine V_ldc2 (pc := 3) C dX10_count_3 qk_X10_122 ?_
      refine call_X10_106 (pc := 6) C (c_in (d := d - 1) M _ 0 9 (by decide) (by decide)) (by omega) (Nat.le_of_ble_eq_true rfl) dX10_count_6 (fun x_6 M_6 h_6 => ?_)
      obtain ⟨e_6, rfl⟩ := h_6
      have e_6 := e_6.symm
      subst e_6
      refine V_if_ne (tgt := 15) (pc := 9) C dX10_count_9 (by decide) (fun h_9 => ?_) (fun h_9 => ?_)
      · have h_9 := bJ_1.mp h_9
        refine V_iload_n (pc := 15) C 1 dX10_count_15 rfl rfl ?_
        refine V_iconst (v := 4) (pc := 16) C dX10_count_16 (by decide) ?_
        refine V_icmp_ge (tgt := 63) (pc := 17) C dX10_count_17 (by decide) (fun h => absurd h (by decide)) (fun _ => ?_)
        refine V_iload_n (pc := 20) C 1 dX10_count_20 rfl rfl ?_
        refine V_if_ne (tgt := 31) (pc := 21) C dX10_count_21 (by decide) (fun h => absurd h (by decide)) (fun _ => ?_)
        refine V_aload_n (pc := 24) C 0 dX10_count_24 rfl rfl ?_
        refine get_X10_103 (pc := 25) C (wg hG (by decide) (by decide)) dX10_count_25 ?_
        refine V_goto (tgt := 62) (pc := 28) C dX10_count_28 (by decide) ?_
        refine V_iret (pc := 62) C hr hlk dX10_count_62 ⟨_, rfl, ?_⟩
        exact ⟨c4.1.1.trans c1.1.1.symm, cK.rf, h.keep⟩
      · have h_9 := bJ_0.mp h_9
        exact absurd hw h_9
    · rw [show nI 1 = 1 from rfl] at *
      clear hk
      refine Ctr.of (lv0 := [(0, _), (1, _)]) (by decide) (Nat.le_of_ble_eq_true rfl) rfl ?_
      intro p e s m args below meth c C hr hlk _
      have C : CX p s m args c cX10_count 2 "CostsAgeModel" D cy ad G (wA ad G) (Rm d) d 0 0 := C
      refine V_iload_n (pc := 0) C 1 dX10_count_0 rfl rfl ?_
      refine V_i2l (pc := 1) C dX10_count_1 ?_
      refine V_lconst (v := 0) (pc := 2) C dX10_count_2 (by decide) ?_
      refine V_ldc2 (pc := 3) C dX10_count_3 qk_X10_122 ?_
      refine call_X10_106 (pc := 6) C (c_in (d := d - 1) M _ 0 9 (by decide) (by decide)) (by omega) (Nat.le_of_ble_eq_true rfl) dX10_count_6 (fun x_6 M_6 h_6 => ?_)
      obtain ⟨e_6, rfl⟩ := h_6
      have e_6 := e_6.symm
      subst e_6
      refine V_if_ne (tgt := 15) (pc := 9) C dX10_count_9 (by decide) (fun h_9 => ?_) (fun h_9 => ?_)
      · have h_9 := bJ_1.mp h_9
        refine V_iload_n (pc := 15) C 1 dX10_count_15 rfl rfl ?_
        refine V_iconst (v := 4) (pc := 16) C dX10_count_16 (by decide) ?_
        refine V_icmp_ge (tgt := 63) (pc := 17) C dX10_count_17 (by decide) (fun h => absurd h (by decide)) (fun _ => ?_)
        refine V_iload_n (pc := 20) C 1 dX10_count_20 rfl rfl ?_
        refine V_if_ne (tgt := 31) (pc := 21) C dX10_count_21 (by decide) (fun _ => ?_) (fun h => absurd h (by decide))
        refine V_iload_n (pc := 31) C 1 dX10_count_31 rfl rfl ?_
        refine V_iconst (v := 1) (pc := 32) C dX10_count_32 (by decide) ?_
        refine V_icmp_ne (tgt := 43) (pc := 33) C dX10_count_33 (by decide) (fun h => absurd (by decide) h) (fun _ => ?_)
        refine V_aload_n (pc := 36) C 0 dX10_count_36 rfl rfl ?_
        refine get_X10_110 (pc := 37) C (wg hG (by decide) (by decide)) dX10_count_37 ?_
        refine V_goto (tgt := 62) (pc := 40) C dX10_count_40 (by decide) ?_
        refine V_iret (pc := 62) C hr hlk dX10_count_62 ⟨_, rfl, ?_⟩
        exact ⟨c4.1.2.trans c1.2.1.1.symm, cK.rf, h.keep⟩
      · have h_9 := bJ_0.mp h_9
        exact absurd hw h_9
    · rw [show nI 2 = 2 from rfl] at *
      clear hk
      refine Ctr.of (lv0 := [(0, _), (1, _)]) (by decide) (Nat.le_of_ble_eq_true rfl) rfl ?_
      intro p e s m args below meth c C hr hlk _
      have C : CX p s m args c cX10_count 2 "CostsAgeModel" D cy ad G (wA ad G) (Rm d) d 0 0 := C
      refine V_iload_n (pc := 0) C 1 dX10_count_0 rfl rfl ?_
      refine V_i2l (pc := 1) C dX10_count_1 ?_
      refine V_lconst (v := 0) (pc := 2) C dX10_count_2 (by decide) ?_
      refine V_ldc2 (pc := 3) C dX10_count_3 qk_X10_122 ?_
      refine call_X10_106 (pc := 6) C (c_in (d := d - 1) M _ 0 9 (by decide) (by decide)) (by omega) (Nat.le_of_ble_eq_true rfl) dX10_count_6 (fun x_6 M_6 h_6 => ?_)
      obtain ⟨e_6, rfl⟩ := h_6
      have e_6 := e_6.symm
      subst e_6
      refine V_if_ne (tgt := 15) (pc := 9) C dX10_count_9 (by decide) (fun h_9 => ?_) (fun h_9 => ?_)
      · have h_9 := bJ_1.mp h_9
        refine V_iload_n (pc := 15) C 1 dX10_count_15 rfl rfl ?_
        refine V_iconst (v := 4) (pc := 16) C dX10_count_16 (by decide) ?_
        refine V_icmp_ge (tgt := 63) (pc := 17) C dX10_count_17 (by decide) (fun h => absurd h (by decide)) (fun _ => ?_)
        refine V_iload_n (pc := 20) C 1 dX10_count_20 rfl rfl ?_
        refine V_if_ne (tgt := 31) (pc := 21) C dX10_count_21 (by decide) (fun _ => ?_) (fun h => absurd h (by decide))
        refine V_iload_n (pc := 31) C 1 dX10_count_31 rfl rfl ?_
        refine V_iconst (v := 1) (pc := 32) C dX10_count_32 (by decide) ?_
        refine V_icmp_ne (tgt := 43) (pc := 33) C dX10_count_33 (by decide) (fun _ => ?_) (fun h => absurd h (by decide))
        refine V_iload_n (pc := 43) C 1 dX10_count_43 rfl rfl ?_
        refine V_iconst (v := 2) (pc := 44) C dX10_count_44 (by decide) ?_
        refine V_icmp_ne (tgt := 58) (pc := 45) C dX10_count_45 (by decide) (fun h => absurd (by decide) h) (fun _ => ?_)
        refine V_aload_n (pc := 48) C 0 dX10_count_48 rfl rfl ?_
        refine call_X10_288 (pc := 49) C (c_X10_left (d := d - 1) hG M) (by omega) (wg hG (by decide) (by decide)) (Nat.le_of_ble_eq_true rfl) dX10_count_49 (fun x_49 M_49 h_49 => ?_)
        obtain ⟨e_49, rfl⟩ := h_49
        have e_49 := e_49.symm
        subst e_49
        rw [hlf]
        refine call_X10_291 (pc := 52) C (c_X10_bitsOf (d := d - 1) M hU.2.2) (by omega) (Nat.le_of_ble_eq_true rfl) dX10_count_52 (fun x_52 M_52 h_52 => ?_)
        obtain ⟨e_52, rfl⟩ := h_52
        have e_52 := e_52.symm
        subst e_52
        refine V_goto (tgt := 62) (pc := 55) C dX10_count_55 (by decide) ?_
        refine V_iret (pc := 62) C hr hlk dX10_count_62 ⟨_, rfl, ?_⟩
        exact ⟨rfl, cK.rf, h.keep⟩
      · have h_9 := bJ_0.mp h_9
        exact absurd hw h_9
    · rw [show nI 3 = 3 from rfl] at *
      clear hk
      refine Ctr.of (lv0 := [(0, _), (1, _)]) (by decide) (Nat.le_of_ble_eq_true rfl) rfl ?_
      intro p e s m args below meth c C hr hlk _
      have C : CX p s m args c cX10_count 2 "CostsAgeModel" D cy ad G (wA ad G) (Rm d) d 0 0 := C
      refine V_iload_n (pc := 0) C 1 dX10_count_0 rfl rfl ?_
      refine V_i2l (pc := 1) C dX10_count_1 ?_
      refine V_lconst (v := 0) (pc := 2) C dX10_count_2 (by decide) ?_
      refine V_ldc2 (pc := 3) C dX10_count_3 qk_X10_122 ?_
      refine call_X10_106 (pc := 6) C (c_in (d := d - 1) M _ 0 9 (by decide) (by decide)) (by omega) (Nat.le_of_ble_eq_true rfl) dX10_count_6 (fun x_6 M_6 h_6 => ?_)
      obtain ⟨e_6, rfl⟩ := h_6
      have e_6 := e_6.symm
      subst e_6
      refine V_if_ne (tgt := 15) (pc := 9) C dX10_count_9 (by decide) (fun h_9 => ?_) (fun h_9 => ?_)
      · have h_9 := bJ_1.mp h_9
        refine V_iload_n (pc := 15) C 1 dX10_count_15 rfl rfl ?_
        refine V_iconst (v := 4) (pc := 16) C dX10_count_16 (by decide) ?_
        refine V_icmp_ge (tgt := 63) (pc := 17) C dX10_count_17 (by decide) (fun h => absurd h (by decide)) (fun _ => ?_)
        refine V_iload_n (pc := 20) C 1 dX10_count_20 rfl rfl ?_
        refine V_if_ne (tgt := 31) (pc := 21) C dX10_count_21 (by decide) (fun _ => ?_) (fun h => absurd h (by decide))
        refine V_iload_n (pc := 31) C 1 dX10_count_31 rfl rfl ?_
        refine V_iconst (v := 1) (pc := 32) C dX10_count_32 (by decide) ?_
        refine V_icmp_ne (tgt := 43) (pc := 33) C dX10_count_33 (by decide) (fun _ => ?_) (fun h => absurd h (by decide))
        refine V_iload_n (pc := 43) C 1 dX10_count_43 rfl rfl ?_
        refine V_iconst (v := 2) (pc := 44) C dX10_count_44 (by decide) ?_
        refine V_icmp_ne (tgt := 58) (pc := 45) C dX10_count_45 (by decide) (fun _ => ?_) (fun h => absurd h (by decide))
        refine V_aload_n (pc := 58) C 0 dX10_count_58 rfl rfl ?_
        refine get_X10_141 (pc := 59) C (wg hG (by decide) (by decide)) dX10_count_59 ?_
        refine V_iret (pc := 62) C hr hlk dX10_count_62 ⟨_, rfl, ?_⟩
        exact ⟨c4.2.1.2.1, cK.rf, h.keep⟩
      · have h_9 := bJ_0.mp h_9
        exact absurd hw h_9
    · rw [show nI 4 = 4 from rfl] at *
      clear hk
      refine Ctr.of (lv0 := [(0, _), (1, _)]) (by decide) (Nat.le_of_ble_eq_true rfl) rfl ?_
      intro p e s m args below meth c C hr hlk _
      have C : CX p s m args c cX10_count 2 "CostsAgeModel" D cy ad G (wA ad G) (Rm d) d 0 0 := C
      refine V_iload_n (pc := 0) C 1 dX10_count_0 rfl rfl ?_
      refine V_i2l (pc := 1) C dX10_count_1 ?_
      refine V_lconst (v := 0) (pc := 2) C dX10_count_2 (by decide) ?_
      refine V_ldc2 (pc := 3) C dX10_count_3 qk_X10_122 ?_
      refine call_X10_106 (pc := 6) C (c_in (d := d - 1) M _ 0 9 (by decide) (by decide)) (by omega) (Nat.le_of_ble_eq_true rfl) dX10_count_6 (fun x_6 M_6 h_6 => ?_)
      obtain ⟨e_6, rfl⟩ := h_6
      have e_6 := e_6.symm
      subst e_6
      refine V_if_ne (tgt := 15) (pc := 9) C dX10_count_9 (by decide) (fun h_9 => ?_) (fun h_9 => ?_)
      · have h_9 := bJ_1.mp h_9
        refine V_iload_n (pc := 15) C 1 dX10_count_15 rfl rfl ?_
        refine V_iconst (v := 4) (pc := 16) C dX10_count_16 (by decide) ?_
        refine V_icmp_ge (tgt := 63) (pc := 17) C dX10_count_17 (by decide) (fun _ => ?_) (fun h => absurd (by decide) h)
        refine V_iload_n (pc := 63) C 1 dX10_count_63 rfl rfl ?_
        refine V_bipush (v := 7) (pc := 64) C dX10_count_64 (by decide) ?_
        refine V_icmp_ge (tgt := 98) (pc := 66) C dX10_count_66 (by decide) (fun h => absurd h (by decide)) (fun _ => ?_)
        refine V_iload_n (pc := 69) C 1 dX10_count_69 rfl rfl ?_
        refine V_iconst (v := 4) (pc := 70) C dX10_count_70 (by decide) ?_
        refine V_icmp_ne (tgt := 81) (pc := 71) C dX10_count_71 (by decide) (fun h => absurd (by decide) h) (fun _ => ?_)
        refine V_aload_n (pc := 74) C 0 dX10_count_74 rfl rfl ?_
        refine get_X10_315 (pc := 75) C (wg hG (by decide) (by decide)) dX10_count_75 ?_
        refine V_goto (tgt := 97) (pc := 78) C dX10_count_78 (by decide) ?_
        refine V_iret (pc := 97) C hr hlk dX10_count_97 ⟨_, rfl, ?_⟩
        exact ⟨c5.1, cK.rf, h.keep⟩
      · have h_9 := bJ_0.mp h_9
        exact absurd hw h_9
    · rw [show nI 5 = 5 from rfl] at *
      clear hk
      refine Ctr.of (lv0 := [(0, _), (1, _)]) (by decide) (Nat.le_of_ble_eq_true rfl) rfl ?_
      intro p e s m args below meth c C hr hlk _
      have C : CX p s m args c cX10_count 2 "CostsAgeModel" D cy ad G (wA ad G) (Rm d) d 0 0 := C
      refine V_iload_n (pc := 0) C 1 dX10_count_0 rfl rfl ?_
      refine V_i2l (pc := 1) C dX10_count_1 ?_
      refine V_lconst (v := 0) (pc := 2) C dX10_count_2 (by decide) ?_
      refine V_ldc2 (pc := 3) C dX10_count_3 qk_X10_122 ?_
      refine call_X10_106 (pc := 6) C (c_in (d := d - 1) M _ 0 9 (by decide) (by decide)) (by omega) (Nat.le_of_ble_eq_true rfl) dX10_count_6 (fun x_6 M_6 h_6 => ?_)
      obtain ⟨e_6, rfl⟩ := h_6
      have e_6 := e_6.symm
      subst e_6
      refine V_if_ne (tgt := 15) (pc := 9) C dX10_count_9 (by decide) (fun h_9 => ?_) (fun h_9 => ?_)
      · have h_9 := bJ_1.mp h_9
        refine V_iload_n (pc := 15) C 1 dX10_count_15 rfl rfl ?_
        refine V_iconst (v := 4) (pc := 16) C dX10_count_16 (by decide) ?_
        refine V_icmp_ge (tgt := 63) (pc := 17) C dX10_count_17 (by decide) (fun _ => ?_) (fun h => absurd (by decide) h)
        refine V_iload_n (pc := 63) C 1 dX10_count_63 rfl rfl ?_
        refine V_bipush (v := 7) (pc := 64) C dX10_count_64 (by decide) ?_
        refine V_icmp_ge (tgt := 98) (pc := 66) C dX10_count_66 (by decide) (fun h => absurd h (by decide)) (fun _ => ?_)
        refine V_iload_n (pc := 69) C 1 dX10_count_69 rfl rfl ?_
        refine V_iconst (v := 4) (pc := 70) C dX10_count_70 (by decide) ?_
        refine V_icmp_ne (tgt := 81) (pc := 71) C dX10_count_71 (by decide) (fun _ => ?_) (fun h => absurd h (by decide))
        refine V_iload_n (pc := 81) C 1 dX10_count_81 rfl rfl ?_
        refine V_iconst (v := 5) (pc := 82) C dX10_count_82 (by decide) ?_
        refine V_icmp_ne (tgt := 93) (pc := 83) C dX10_count_83 (by decide) (fun h => absurd (by decide) h) (fun _ => ?_)
        refine V_aload_n (pc := 86) C 0 dX10_count_86 rfl rfl ?_
        refine get_X10_312 (pc := 87) C (wg hG (by decide) (by decide)) dX10_count_87 ?_
        refine V_goto (tgt := 97) (pc := 90) C dX10_count_90 (by decide) ?_
        refine V_iret (pc := 97) C hr hlk dX10_count_97 ⟨_, rfl, ?_⟩
        exact ⟨c5.2, cK.rf, h.keep⟩
      · have h_9 := bJ_0.mp h_9
        exact absurd hw h_9
    · rw [show nI 6 = 6 from rfl] at *
      clear hk
      refine Ctr.of (lv0 := [(0, _), (1, _)]) (by decide) (Nat.le_of_ble_eq_true rfl) rfl ?_
      intro p e s m args below meth c C hr hlk _
      have C : CX p s m args c cX10_count 2 "CostsAgeModel" D cy ad G (wA ad G) (Rm d) d 0 0 := C
      refine V_iload_n (pc := 0) C 1 dX10_count_0 rfl rfl ?_
      refine V_i2l (pc := 1) C dX10_count_1 ?_
      refine V_lconst (v := 0) (pc := 2) C dX10_count_2 (by decide) ?_
      refine V_ldc2 (pc := 3) C dX10_count_3 qk_X10_122 ?_
      refine call_X10_106 (pc := 6) C (c_in (d := d - 1) M _ 0 9 (by decide) (by decide)) (by omega) (Nat.le_of_ble_eq_true rfl) dX10_count_6 (fun x_6 M_6 h_6 => ?_)
      obtain ⟨e_6, rfl⟩ := h_6
      have e_6 := e_6.symm
      subst e_6
      refine V_if_ne (tgt := 15) (pc := 9) C dX10_count_9 (by decide) (fun h_9 => ?_) (fun h_9 => ?_)
      · have h_9 := bJ_1.mp h_9
        refine V_iload_n (pc := 15) C 1 dX10_count_15 rfl rfl ?_
        refine V_iconst (v := 4) (pc := 16) C dX10_count_16 (by decide) ?_
        refine V_icmp_ge (tgt := 63) (pc := 17) C dX10_count_17 (by decide) (fun _ => ?_) (fun h => absurd (by decide) h)
        refine V_iload_n (pc := 63) C 1 dX10_count_63 rfl rfl ?_
        refine V_bipush (v := 7) (pc := 64) C dX10_count_64 (by decide) ?_
        refine V_icmp_ge (tgt := 98) (pc := 66) C dX10_count_66 (by decide) (fun h => absurd h (by decide)) (fun _ => ?_)
        refine V_iload_n (pc := 69) C 1 dX10_count_69 rfl rfl ?_
        refine V_iconst (v := 4) (pc := 70) C dX10_count_70 (by decide) ?_
        refine V_icmp_ne (tgt := 81) (pc := 71) C dX10_count_71 (by decide) (fun _ => ?_) (fun h => absurd h (by decide))
        refine V_iload_n (pc := 81) C 1 dX10_count_81 rfl rfl ?_
        refine V_iconst (v := 5) (pc := 82) C dX10_count_82 (by decide) ?_
        refine V_icmp_ne (tgt := 93) (pc := 83) C dX10_count_83 (by decide) (fun _ => ?_) (fun h => absurd h (by decide))
        refine V_aload_n (pc := 93) C 0 dX10_count_93 rfl rfl ?_
        refine get_X10_47 (pc := 94) C (wg hG (by decide) (by decide)) dX10_count_94 ?_
        refine V_iret (pc := 97) C hr hlk dX10_count_97 ⟨_, rfl, ?_⟩
        exact ⟨c4.2.1.2.2.1, cK.rf, h.keep⟩
      · have h_9 := bJ_0.mp h_9
        exact absurd hw h_9
    · rw [show nI 7 = 7 from rfl] at *
      clear hk
      refine Ctr.of (lv0 := [(0, _), (1, _)]) (by decide) (Nat.le_of_ble_eq_true rfl) rfl ?_
      intro p e s m args below meth c C hr hlk _
      have C : CX p s m args c cX10_count 2 "CostsAgeModel" D cy ad G (wA ad G) (Rm d) d 0 0 := C
      refine V_iload_n (pc := 0) C 1 dX10_count_0 rfl rfl ?_
      refine V_i2l (pc := 1) C dX10_count_1 ?_
      refine V_lconst (v := 0) (pc := 2) C dX10_count_2 (by decide) ?_
      refine V_ldc2 (pc := 3) C dX10_count_3 qk_X10_122 ?_
      refine call_X10_106 (pc := 6) C (c_in (d := d - 1) M _ 0 9 (by decide) (by decide)) (by omega) (Nat.le_of_ble_eq_true rfl) dX10_count_6 (fun x_6 M_6 h_6 => ?_)
      obtain ⟨e_6, rfl⟩ := h_6
      have e_6 := e_6.symm
      subst e_6
      refine V_if_ne (tgt := 15) (pc := 9) C dX10_count_9 (by decide) (fun h_9 => ?_) (fun h_9 => ?_)
      · have h_9 := bJ_1.mp h_9
        refine V_iload_n (pc := 15) C 1 dX10_count_15 rfl rfl ?_
        refine V_iconst (v := 4) (pc := 16) C dX10_count_16 (by decide) ?_
        refine V_icmp_ge (tgt := 63) (pc := 17) C dX10_count_17 (by decide) (fun _ => ?_) (fun h => absurd (by decide) h)
        refine V_iload_n (pc := 63) C 1 dX10_count_63 rfl rfl ?_
        refine V_bipush (v := 7) (pc := 64) C dX10_count_64 (by decide) ?_
        refine V_icmp_ge (tgt := 98) (pc := 66) C dX10_count_66 (by decide) (fun _ => ?_) (fun h => absurd (by decide) h)
        refine V_iload_n (pc := 98) C 1 dX10_count_98 rfl rfl ?_
        refine V_bipush (v := 7) (pc := 99) C dX10_count_99 (by decide) ?_
        refine V_icmp_ne (tgt := 111) (pc := 101) C dX10_count_101 (by decide) (fun h => absurd (by decide) h) (fun _ => ?_)
        refine V_aload_n (pc := 104) C 0 dX10_count_104 rfl rfl ?_
        refine get_X10_100 (pc := 105) C (wg hG (by decide) (by decide)) dX10_count_105 ?_
        refine V_goto (tgt := 128) (pc := 108) C dX10_count_108 (by decide) ?_
        refine V_iret (pc := 128) C hr hlk dX10_count_128 ⟨_, rfl, ?_⟩
        exact ⟨c1.2.2.2.trans c1.2.2.1.1.symm, cK.rf, h.keep⟩
      · have h_9 := bJ_0.mp h_9
        exact absurd hw h_9
    · rw [show nI 8 = 8 from rfl] at *
      clear hk
      refine Ctr.of (lv0 := [(0, _), (1, _)]) (by decide) (Nat.le_of_ble_eq_true rfl) rfl ?_
      intro p e s m args below meth c C hr hlk _
      have C : CX p s m args c cX10_count 2 "CostsAgeModel" D cy ad G (wA ad G) (Rm d) d 0 0 := C
      refine V_iload_n (pc := 0) C 1 dX10_count_0 rfl rfl ?_
      refine V_i2l (pc := 1) C dX10_count_1 ?_
      refine V_lconst (v := 0) (pc := 2) C dX10_count_2 (by decide) ?_
      refine V_ldc2 (pc := 3) C dX10_count_3 qk_X10_122 ?_
      refine call_X10_106 (pc := 6) C (c_in (d := d - 1) M _ 0 9 (by decide) (by decide)) (by omega) (Nat.le_of_ble_eq_true rfl) dX10_count_6 (fun x_6 M_6 h_6 => ?_)
      obtain ⟨e_6, rfl⟩ := h_6
      have e_6 := e_6.symm
      subst e_6
      refine V_if_ne (tgt := 15) (pc := 9) C dX10_count_9 (by decide) (fun h_9 => ?_) (fun h_9 => ?_)
      · have h_9 := bJ_1.mp h_9
        refine V_iload_n (pc := 15) C 1 dX10_count_15 rfl rfl ?_
        refine V_iconst (v := 4) (pc := 16) C dX10_count_16 (by decide) ?_
        refine V_icmp_ge (tgt := 63) (pc := 17) C dX10_count_17 (by decide) (fun _ => ?_) (fun h => absurd (by decide) h)
        refine V_iload_n (pc := 63) C 1 dX10_count_63 rfl rfl ?_
        refine V_bipush (v := 7) (pc := 64) C dX10_count_64 (by decide) ?_
        refine V_icmp_ge (tgt := 98) (pc := 66) C dX10_count_66 (by decide) (fun _ => ?_) (fun h => absurd (by decide) h)
        refine V_iload_n (pc := 98) C 1 dX10_count_98 rfl rfl ?_
        refine V_bipush (v := 7) (pc := 99) C dX10_count_99 (by decide) ?_
        refine V_icmp_ne (tgt := 111) (pc := 101) C dX10_count_101 (by decide) (fun _ => ?_) (fun h => absurd h (by decide))
        refine V_iload_n (pc := 111) C 1 dX10_count_111 rfl rfl ?_
        refine V_bipush (v := 8) (pc := 112) C dX10_count_112 (by decide) ?_
        refine V_icmp_ne (tgt := 124) (pc := 114) C dX10_count_114 (by decide) (fun h => absurd (by decide) h) (fun _ => ?_)
        refine V_aload_n (pc := 117) C 0 dX10_count_117 rfl rfl ?_
        refine get_X10_154 (pc := 118) C (wg hG (by decide) (by decide)) dX10_count_118 ?_
        refine V_goto (tgt := 128) (pc := 121) C dX10_count_121 (by decide) ?_
        refine V_iret (pc := 128) C hr hlk dX10_count_128 ⟨_, rfl, ?_⟩
        exact ⟨c6.2.2.1.trans c6.1.symm, cK.rf, h.keep⟩
      · have h_9 := bJ_0.mp h_9
        exact absurd hw h_9
    · rw [show nI 9 = 9 from rfl] at *
      clear hk
      refine Ctr.of (lv0 := [(0, _), (1, _)]) (by decide) (Nat.le_of_ble_eq_true rfl) rfl ?_
      intro p e s m args below meth c C hr hlk _
      have C : CX p s m args c cX10_count 2 "CostsAgeModel" D cy ad G (wA ad G) (Rm d) d 0 0 := C
      refine V_iload_n (pc := 0) C 1 dX10_count_0 rfl rfl ?_
      refine V_i2l (pc := 1) C dX10_count_1 ?_
      refine V_lconst (v := 0) (pc := 2) C dX10_count_2 (by decide) ?_
      refine V_ldc2 (pc := 3) C dX10_count_3 qk_X10_122 ?_
      refine call_X10_106 (pc := 6) C (c_in (d := d - 1) M _ 0 9 (by decide) (by decide)) (by omega) (Nat.le_of_ble_eq_true rfl) dX10_count_6 (fun x_6 M_6 h_6 => ?_)
      obtain ⟨e_6, rfl⟩ := h_6
      have e_6 := e_6.symm
      subst e_6
      refine V_if_ne (tgt := 15) (pc := 9) C dX10_count_9 (by decide) (fun h_9 => ?_) (fun h_9 => ?_)
      · have h_9 := bJ_1.mp h_9
        refine V_iload_n (pc := 15) C 1 dX10_count_15 rfl rfl ?_
        refine V_iconst (v := 4) (pc := 16) C dX10_count_16 (by decide) ?_
        refine V_icmp_ge (tgt := 63) (pc := 17) C dX10_count_17 (by decide) (fun _ => ?_) (fun h => absurd (by decide) h)
        refine V_iload_n (pc := 63) C 1 dX10_count_63 rfl rfl ?_
        refine V_bipush (v := 7) (pc := 64) C dX10_count_64 (by decide) ?_
        refine V_icmp_ge (tgt := 98) (pc := 66) C dX10_count_66 (by decide) (fun _ => ?_) (fun h => absurd (by decide) h)
        refine V_iload_n (pc := 98) C 1 dX10_count_98 rfl rfl ?_
        refine V_bipush (v := 7) (pc := 99) C dX10_count_99 (by decide) ?_
        refine V_icmp_ne (tgt := 111) (pc := 101) C dX10_count_101 (by decide) (fun _ => ?_) (fun h => absurd h (by decide))
        refine V_iload_n (pc := 111) C 1 dX10_count_111 rfl rfl ?_
        refine V_bipush (v := 8) (pc := 112) C dX10_count_112 (by decide) ?_
        refine V_icmp_ne (tgt := 124) (pc := 114) C dX10_count_114 (by decide) (fun _ => ?_) (fun h => absurd h (by decide))
        refine V_aload_n (pc := 124) C 0 dX10_count_124 rfl rfl ?_
        refine get_X10_270 (pc := 125) C (wg hG (by decide) (by decide)) dX10_count_125 ?_
        refine V_iret (pc := 128) C hr hlk dX10_count_128 ⟨_, rfl, ?_⟩
        exact ⟨c4.2.1.2.2.2, cK.rf, h.keep⟩
      · have h_9 := bJ_0.mp h_9
        exact absurd hw h_9
  · rw [kn hw]
    refine Ctr.of (lv0 := [(0, _), (1, _)]) (by decide) (Nat.le_of_ble_eq_true rfl) rfl ?_
    intro p e s m args below meth c C hr hlk _
    have C : CX p s m args c cX10_count 2 "CostsAgeModel" D cy ad G (wA ad G) (Rm d) d 0 0 := C
    refine V_iload_n (pc := 0) C 1 dX10_count_0 rfl rfl ?_
    refine V_i2l (pc := 1) C dX10_count_1 ?_
    refine V_lconst (v := 0) (pc := 2) C dX10_count_2 (by decide) ?_
    refine V_ldc2 (pc := 3) C dX10_count_3 qk_X10_122 ?_
    refine call_X10_106 (pc := 6) C (c_in (d := d - 1) M w 0 9 (by decide) (by decide)) (by omega) (Nat.le_of_ble_eq_true rfl) dX10_count_6 (fun x_6 M_6 h_6 => ?_)
    obtain ⟨e_6, rfl⟩ := h_6
    have e_6 := e_6.symm
    subst e_6
    refine V_if_ne (tgt := 15) (pc := 9) C dX10_count_9 (by decide) (fun h_9 => ?_) (fun h_9 => ?_)
    · have h_9 := bJ_1.mp h_9
      exact absurd h_9 hw
    · have h_9 := bJ_0.mp h_9
      refine V_bipush (v := -2) (pc := 12) C dX10_count_12 (by decide) ?_
      refine V_iret (pc := 14) C hr hlk dX10_count_14 ⟨_, rfl, ?_⟩
      exact ⟨rfl, cK.rf, h.keep⟩
end S76
