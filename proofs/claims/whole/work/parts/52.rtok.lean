section S52
variable {l : Launch} {D : va_G} {cy : Nat → ClassId} {ad : Nat → Nat → Nat} {G d : Nat}
def letL (f : Nat → Int32) (q h j : Nat) (w : Int32) : Prop := (q + j < h ∧ f (q + j) = w) ∨ (¬ q + j < h ∧ w = 0)
theorem c_X10_isLetter (hG : 56 ≤ G) (hd : 1 ≤ d) (M : wS) {F z : Nat} {f : Nat → Int32} (hE : rE M F z f) {q h : Nat} (h1 : M.1 30 0 32 = nI q) (h2 : M.1 30 0 30 = nI h) (hz : h ≤ z) (hqz : q ≤ z) {j : Nat} (hj : j < 8) (w : Int32) : Ctr l D cy ad G d yX10_isLetter cX10_isLetter 3 (some .boolean) [.ref (ad 30 0), .int (nI j), .int w] M (rI fun x M' => M' = M ∧ x = bP (letL f q h j w)) := by
  have hz2 := hE.2.2.1
  refine Ctr.of (lv0 := [(0, _), (1, _), (2, _)]) (by decide) (Nat.le_of_ble_eq_true rfl) rfl ?_
  intro p e s m args below meth c C hr hlk _
  have C : CX p s m args c cX10_isLetter 3 "CostsAgeModel" D cy ad G (wA ad G) (Rm d) d 0 0 := C
  refine V_aload_n (pc := 0) C 0 dX10_isLetter_0 rfl rfl ?_
  refine get_X10_169 (pc := 1) C (wg hG (by decide) (by decide)) dX10_isLetter_1 ?_
  refine V_iload_n (pc := 4) C 1 dX10_isLetter_4 rfl rfl ?_
  refine V_iadd (pc := 5) C dX10_isLetter_5 ?_
  rw [h1, nI_add]
  refine V_aload_n (pc := 6) C 0 dX10_isLetter_6 rfl rfl ?_
  refine get_X10_163 (pc := 7) C (wg hG (by decide) (by decide)) dX10_isLetter_7 ?_
  refine V_icmp_ge (tgt := 35) (pc := 10) C dX10_isLetter_10 (by decide) (fun h_10 => ?_) (fun h_10 => ?_)
  · rw [h2] at h_10
    have hlt : ¬ q + j < h := fun e => absurd h_10 (nI_ge e (by omega))
    refine V_iload_n (pc := 35) C 2 dX10_isLetter_35 rfl rfl ?_
    refine V_if_ne (tgt := 43) (pc := 36) C dX10_isLetter_36 (by decide) (fun h_36 => ?_) (fun h_36 => ?_)
    · refine V_iconst (v := 0) (pc := 43) C dX10_isLetter_43 (by decide) ?_
      refine V_zret (pc := 44) C hr hlk rfl dX10_isLetter_44 ⟨_, rfl, ?_⟩
      first | exact ⟨rfl, bP_t (Or.inl ⟨hlt, h_24⟩)⟩ | exact ⟨rfl, bP_f (fun z => z.elim (fun y => h_24 y.2) (fun y => y.1 hlt))⟩ | exact ⟨rfl, bP_t (Or.inr ⟨hlt, h_36⟩)⟩ | exact ⟨rfl, bP_f (fun z => z.elim (fun y => hlt y.1) (fun y => h_36 y.2))⟩
    · refine V_iconst (v := 1) (pc := 39) C dX10_isLetter_39 (by decide) ?_
      refine V_goto (tgt := 44) (pc := 40) C dX10_isLetter_40 (by decide) ?_
      refine V_zret (pc := 44) C hr hlk rfl dX10_isLetter_44 ⟨_, rfl, ?_⟩
      first | exact ⟨rfl, bP_t (Or.inl ⟨hlt, h_24⟩)⟩ | exact ⟨rfl, bP_f (fun z => z.elim (fun y => h_24 y.2) (fun y => y.1 hlt))⟩ | exact ⟨rfl, bP_t (Or.inr ⟨hlt, h_36⟩)⟩ | exact ⟨rfl, bP_f (fun z => z.elim (fun y => hlt y.1) (fun y => h_36 y.2))⟩
  · rw [h2] at h_10
    have hlt : q + j < h := Nat.lt_of_not_le (fun e => h_10 (nI_le e (by omega)))
    refine V_aload_n (pc := 13) C 0 dX10_isLetter_13 rfl rfl ?_
    refine V_aload_n (pc := 14) C 0 dX10_isLetter_14 rfl rfl ?_
    refine get_X10_169 (pc := 15) C (wg hG (by decide) (by decide)) dX10_isLetter_15 ?_
    refine V_iload_n (pc := 18) C 1 dX10_isLetter_18 rfl rfl ?_
    refine V_iadd (pc := 19) C dX10_isLetter_19 ?_
    rw [h1, nI_add]
    refine call_X10_166 (pc := 20) C (c_X10_byteAt (d := d - 1) hG M hE (k := q + j) (by omega)) (by omega) (wg hG (by decide) (by decide)) (Nat.le_of_ble_eq_true rfl) dX10_isLetter_20 (fun x_20 M_20 h_20 => ?_)
    obtain ⟨e_20, rfl⟩ := h_20
    have e_20 := e_20.symm
    subst e_20
    refine V_iload_n (pc := 23) C 2 dX10_isLetter_23 rfl rfl ?_
    refine V_icmp_ne (tgt := 31) (pc := 24) C dX10_isLetter_24 (by decide) (fun h_24 => ?_) (fun h_24 => ?_)
    · rw [bA, if_pos (by omega)] at h_24
      refine V_iconst (v := 0) (pc := 31) C dX10_isLetter_31 (by decide) ?_
      refine V_goto (tgt := 44) (pc := 32) C dX10_isLetter_32 (by decide) ?_
      refine V_zret (pc := 44) C hr hlk rfl dX10_isLetter_44 ⟨_, rfl, ?_⟩
      first | exact ⟨rfl, bP_t (Or.inl ⟨hlt, h_24⟩)⟩ | exact ⟨rfl, bP_f (fun z => z.elim (fun y => h_24 y.2) (fun y => y.1 hlt))⟩ | exact ⟨rfl, bP_t (Or.inr ⟨hlt, h_36⟩)⟩ | exact ⟨rfl, bP_f (fun z => z.elim (fun y => hlt y.1) (fun y => h_36 y.2))⟩
    · rw [bA, if_pos (by omega)] at h_24
      refine V_iconst (v := 1) (pc := 27) C dX10_isLetter_27 (by decide) ?_
      refine V_goto (tgt := 44) (pc := 28) C dX10_isLetter_28 (by decide) ?_
      refine V_zret (pc := 44) C hr hlk rfl dX10_isLetter_44 ⟨_, rfl, ?_⟩
      first | exact ⟨rfl, bP_t (Or.inl ⟨hlt, h_24⟩)⟩ | exact ⟨rfl, bP_f (fun z => z.elim (fun y => h_24 y.2) (fun y => y.1 hlt))⟩ | exact ⟨rfl, bP_t (Or.inr ⟨hlt, h_36⟩)⟩ | exact ⟨rfl, bP_f (fun z => z.elim (fun y => hlt y.1) (fun y => h_36 y.2))⟩
def wd8 (f : Nat → Int32) (q h : Nat) (w0 w1 w2 w3 w4 w5 w6 w7 : Int32) : Prop := h ≤ q + 8 ∧ letL f q h 0 w0 ∧ letL f q h 1 w1 ∧ letL f q h 2 w2 ∧ letL f q h 3 w3 ∧ letL f q h 4 w4 ∧ letL f q h 5 w5 ∧ letL f q h 6 w6 ∧ letL f q h 7 w7
theorem c_X10_isWord (hG : 56 ≤ G) (hd : 2 ≤ d) (M : wS) {F z : Nat} {f : Nat → Int32} (hE : rE M F z f) {q h : Nat} (hT : M.1 30 0 35 = 0 → M.1 30 0 32 = nI q ∧ M.1 30 0 30 = nI h ∧ h ≤ z ∧ q ≤ z) (w0 w1 w2 w3 w4 w5 w6 w7 : Int32) : Ctr l D cy ad G d yX10_isWord cX10_isWord 9 (some .boolean) [.ref (ad 30 0), .int w0, .int w1, .int w2, .int w3, .int w4, .int w5, .int w6, .int w7] M (rI fun x M' => M' = M ∧ x = bP (M.1 30 0 35 = 0 ∧ M.1 30 0 31 = 1 ∧ wd8 f q h w0 w1 w2 w3 w4 w5 w6 w7)) := by
  have hz2 := hE.2.2.1
  refine Ctr.of (lv0 := [(0, _), (1, _), (2, _), (3, _), (4, _), (5, _), (6, _), (7, _), (8, _)]) (by decide) (Nat.le_of_ble_eq_true rfl) rfl ?_
  intro p e s m args below meth c C hr hlk _
  have C : CX p s m args c cX10_isWord 9 "CostsAgeModel" D cy ad G (wA ad G) (Rm d) d 0 0 := C
  refine V_aload_n (pc := 0) C 0 dX10_isWord_0 rfl rfl ?_
  refine get_X10_187 (pc := 1) C (wg hG (by decide) (by decide)) dX10_isWord_1 ?_
  refine V_if_ne (tgt := 112) (pc := 4) C dX10_isWord_4 (by decide) (fun h_4 => ?_) (fun h_4 => ?_)
  · refine V_iconst (v := 0) (pc := 112) C dX10_isWord_112 (by decide) ?_
    refine V_zret (pc := 113) C hr hlk rfl dX10_isWord_113 ⟨_, rfl, ?_⟩
    exact ⟨rfl, bP_f (fun z => h_4 z.1)⟩
  · obtain ⟨h1, h2, h3, h4⟩ := hT h_4
    refine V_aload_n (pc := 7) C 0 dX10_isWord_7 rfl rfl ?_
    refine get_X10_172 (pc := 8) C (wg hG (by decide) (by decide)) dX10_isWord_8 ?_
    refine V_iconst (v := 1) (pc := 11) C dX10_isWord_11 (by decide) ?_
    refine V_icmp_ne (tgt := 112) (pc := 12) C dX10_isWord_12 (by decide) (fun h_12 => ?_) (fun h_12 => ?_)
    · refine V_iconst (v := 0) (pc := 112) C dX10_isWord_112 (by decide) ?_
      refine V_zret (pc := 113) C hr hlk rfl dX10_isWord_113 ⟨_, rfl, ?_⟩
      exact ⟨rfl, bP_f (fun z => h_12 z.2.1)⟩
    · refine V_aload_n (pc := 15) C 0 dX10_isWord_15 rfl rfl ?_
      refine get_X10_163 (pc := 16) C (wg hG (by decide) (by decide)) dX10_isWord_16 ?_
      refine V_aload_n (pc := 19) C 0 dX10_isWord_19 rfl rfl ?_
      refine get_X10_169 (pc := 20) C (wg hG (by decide) (by decide)) dX10_isWord_20 ?_
      refine V_bipush (v := 8) (pc := 23) C dX10_isWord_23 (by decide) ?_
      refine V_iadd (pc := 25) C dX10_isWord_25 ?_
      refine V_icmp_gt (tgt := 112) (pc := 26) C dX10_isWord_26 (by decide) (fun h_26 => ?_) (fun h_26 => ?_)
      · rw [h1, h2] at h_26
        have h8 : ¬ h ≤ q + 8 := fun e => absurd (show nI (q + 8) < nI h by rw [← nI_add]; exact h_26) (nI_nlt e (by omega))
        refine V_iconst (v := 0) (pc := 112) C dX10_isWord_112 (by decide) ?_
        refine V_zret (pc := 113) C hr hlk rfl dX10_isWord_113 ⟨_, rfl, ?_⟩
        exact ⟨rfl, bP_f (fun z => h8 z.2.2.1)⟩
      · rw [h1, h2] at h_26
        have h8 : h ≤ q + 8 := Nat.le_of_not_lt (fun e => h_26 (by have := nI_lt e (show h < 2 ^ 31 by omega); rw [← nI_add] at this; exact this))
        refine V_aload_n (pc := 29) C 0 dX10_isWord_29 rfl rfl ?_
        refine V_iconst (v := 0) (pc := 30) C dX10_isWord_30 (by decide) ?_
        refine V_iload_n (pc := 31) C 1 dX10_isWord_31 rfl rfl ?_
        refine call_X10_194 (pc := 32) C (c_X10_isLetter (d := d - 1) hG (by omega) M hE h1 h2 h3 h4 (j := 0) (by decide) w0) (by omega) (wg hG (by decide) (by decide)) (Nat.le_of_ble_eq_true rfl) dX10_isWord_32 (fun x_32 M_32 h_32 => ?_)
        obtain ⟨e_32, rfl⟩ := h_32
        have e_32 := e_32.symm
        subst e_32
        refine V_if_eq (tgt := 112) (pc := 35) C dX10_isWord_35 (by decide) (fun h_35 => ?_) (fun h_35 => ?_)
        · have h_35 := bJ_0.mp h_35
          refine V_iconst (v := 0) (pc := 112) C dX10_isWord_112 (by decide) ?_
          refine V_zret (pc := 113) C hr hlk rfl dX10_isWord_113 ⟨_, rfl, ?_⟩
          exact ⟨rfl, bP_f (fun z => h_35 z.2.2.2.1)⟩
        · have h_35 := bJ_1.mp h_35
          refine V_aload_n (pc := 38) C 0 dX10_isWord_38 rfl rfl ?_
          refine V_iconst (v := 1) (pc := 39) C dX10_isWord_39 (by decide) ?_
          refine V_iload_n (pc := 40) C 2 dX10_isWord_40 rfl rfl ?_
          refine call_X10_194 (pc := 41) C (c_X10_isLetter (d := d - 1) hG (by omega) M hE h1 h2 h3 h4 (j := 1) (by decide) w1) (by omega) (wg hG (by decide) (by decide)) (Nat.le_of_ble_eq_true rfl) dX10_isWord_41 (fun x_41 M_41 h_41 => ?_)
          obtain ⟨e_41, rfl⟩ := h_41
          have e_41 := e_41.symm
          subst e_41
          refine V_if_eq (tgt := 112) (pc := 44) C dX10_isWord_44 (by decide) (fun h_44 => ?_) (fun h_44 => ?_)
          · have h_44 := bJ_0.mp h_44
            refine V_iconst (v := 0) (pc := 112) C dX10_isWord_112 (by decide) ?_
            refine V_zret (pc := 113) C hr hlk rfl dX10_isWord_113 ⟨_, rfl, ?_⟩
            exact ⟨rfl, bP_f (fun z => h_44 z.2.2.2.2.1)⟩
          · have h_44 := bJ_1.mp h_44
            refine V_aload_n (pc := 47) C 0 dX10_isWord_47 rfl rfl ?_
            refine V_iconst (v := 2) (pc := 48) C dX10_isWord_48 (by decide) ?_
            refine V_iload_n (pc := 49) C 3 dX10_isWord_49 rfl rfl ?_
            refine call_X10_194 (pc := 50) C (c_X10_isLetter (d := d - 1) hG (by omega) M hE h1 h2 h3 h4 (j := 2) (by decide) w2) (by omega) (wg hG (by decide) (by decide)) (Nat.le_of_ble_eq_true rfl) dX10_isWord_50 (fun x_50 M_50 h_50 => ?_)
            obtain ⟨e_50, rfl⟩ := h_50
            have e_50 := e_50.symm
            subst e_50
            refine V_if_eq (tgt := 112) (pc := 53) C dX10_isWord_53 (by decide) (fun h_53 => ?_) (fun h_53 => ?_)
            · have h_53 := bJ_0.mp h_53
              refine V_iconst (v := 0) (pc := 112) C dX10_isWord_112 (by decide) ?_
              refine V_zret (pc := 113) C hr hlk rfl dX10_isWord_113 ⟨_, rfl, ?_⟩
              exact ⟨rfl, bP_f (fun z => h_53 z.2.2.2.2.2.1)⟩
            · have h_53 := bJ_1.mp h_53
              refine V_aload_n (pc := 56) C 0 dX10_isWord_56 rfl rfl ?_
              refine V_iconst (v := 3) (pc := 57) C dX10_isWord_57 (by decide) ?_
              refine V_iload (pc := 58) C 4 dX10_isWord_58 rfl ?_
              refine call_X10_194 (pc := 60) C (c_X10_isLetter (d := d - 1) hG (by omega) M hE h1 h2 h3 h4 (j := 3) (by decide) w3) (by omega) (wg hG (by decide) (by decide)) (Nat.le_of_ble_eq_true rfl) dX10_isWord_60 (fun x_60 M_60 h_60 => ?_)
              obtain ⟨e_60, rfl⟩ := h_60
              have e_60 := e_60.symm
              subst e_60
              refine V_if_eq (tgt := 112) (pc := 63) C dX10_isWord_63 (by decide) (fun h_63 => ?_) (fun h_63 => ?_)
              · have h_63 := bJ_0.mp h_63
                refine V_iconst (v := 0) (pc := 112) C dX10_isWord_112 (by decide) ?_
                refine V_zret (pc := 113) C hr hlk rfl dX10_isWord_113 ⟨_, rfl, ?_⟩
                exact ⟨rfl, bP_f (fun z => h_63 z.2.2.2.2.2.2.1)⟩
              · have h_63 := bJ_1.mp h_63
                refine V_aload_n (pc := 66) C 0 dX10_isWord_66 rfl rfl ?_
                refine V_iconst (v := 4) (pc := 67) C dX10_isWord_67 (by decide) ?_
                refine V_iload (pc := 68) C 5 dX10_isWord_68 rfl ?_
                refine call_X10_194 (pc := 70) C (c_X10_isLetter (d := d - 1) hG (by omega) M hE h1 h2 h3 h4 (j := 4) (by decide) w4) (by omega) (wg hG (by decide) (by decide)) (Nat.le_of_ble_eq_true rfl) dX10_isWord_70 (fun x_70 M_70 h_70 => ?_)
                obtain ⟨e_70, rfl⟩ := h_70
                have e_70 := e_70.symm
                subst e_70
                refine V_if_eq (tgt := 112) (pc := 73) C dX10_isWord_73 (by decide) (fun h_73 => ?_) (fun h_73 => ?_)
                · have h_73 := bJ_0.mp h_73
                  refine V_iconst (v := 0) (pc := 112) C dX10_isWord_112 (by decide) ?_
                  refine V_zret (pc := 113) C hr hlk rfl dX10_isWord_113 ⟨_, rfl, ?_⟩
                  exact ⟨rfl, bP_f (fun z => h_73 z.2.2.2.2.2.2.2.1)⟩
                · have h_73 := bJ_1.mp h_73
                  refine V_aload_n (pc := 76) C 0 dX10_isWord_76 rfl rfl ?_
                  refine V_iconst (v := 5) (pc := 77) C dX10_isWord_77 (by decide) ?_
                  refine V_iload (pc := 78) C 6 dX10_isWord_78 rfl ?_
                  refine call_X10_194 (pc := 80) C (c_X10_isLetter (d := d - 1) hG (by omega) M hE h1 h2 h3 h4 (j := 5) (by decide) w5) (by omega) (wg hG (by decide) (by decide)) (Nat.le_of_ble_eq_true rfl) dX10_isWord_80 (fun x_80 M_80 h_80 => ?_)
                  obtain ⟨e_80, rfl⟩ := h_80
                  have e_80 := e_80.symm
                  subst e_80
                  refine V_if_eq (tgt := 112) (pc := 83) C dX10_isWord_83 (by decide) (fun h_83 => ?_) (fun h_83 => ?_)
                  · have h_83 := bJ_0.mp h_83
                    refine V_iconst (v := 0) (pc := 112) C dX10_isWord_112 (by decide) ?_
                    refine V_zret (pc := 113) C hr hlk rfl dX10_isWord_113 ⟨_, rfl, ?_⟩
                    exact ⟨rfl, bP_f (fun z => h_83 z.2.2.2.2.2.2.2.2.1)⟩
                  · have h_83 := bJ_1.mp h_83
                    refine V_aload_n (pc := 86) C 0 dX10_isWord_86 rfl rfl ?_
                    refine V_bipush (v := 6) (pc := 87) C dX10_isWord_87 (by decide) ?_
                    refine V_iload (pc := 89) C 7 dX10_isWord_89 rfl ?_
                    refine call_X10_194 (pc := 91) C (c_X10_isLetter (d := d - 1) hG (by omega) M hE h1 h2 h3 h4 (j := 6) (by decide) w6) (by omega) (wg hG (by decide) (by decide)) (Nat.le_of_ble_eq_true rfl) dX10_isWord_91 (fun x_91 M_91 h_91 => ?_)
                    obtain ⟨e_91, rfl⟩ := h_91
                    have e_91 := e_91.symm
                    subst e_91
                    refine V_if_eq (tgt := 112) (pc := 94) C dX10_isWord_94 (by decide) (fun h_94 => ?_) (fun h_94 => ?_)
                    · have h_94 := bJ_0.mp h_94
                      refine V_iconst (v := 0) (pc := 112) C dX10_isWord_112 (by decide) ?_
                      refine V_zret (pc := 113) C hr hlk rfl dX10_isWord_113 ⟨_, rfl, ?_⟩
                      exact ⟨rfl, bP_f (fun z => h_94 z.2.2.2.2.2.2.2.2.2.1)⟩
                    · have h_94 := bJ_1.mp h_94
                      refine V_aload_n (pc := 97) C 0 dX10_isWord_97 rfl rfl ?_
                      refine V_bipush (v := 7) (pc := 98) C dX10_isWord_98 (by decide) ?_
                      refine V_iload (pc := 100) C 8 dX10_isWord_100 rfl ?_
                      refine call_X10_194 (pc := 102) C (c_X10_isLetter (d := d - 1) hG (by omega) M hE h1 h2 h3 h4 (j := 7) (by decide) w7) (by omega) (wg hG (by decide) (by decide)) (Nat.le_of_ble_eq_true rfl) dX10_isWord_102 (fun x_102 M_102 h_102 => ?_)
                      obtain ⟨e_102, rfl⟩ := h_102
                      have e_102 := e_102.symm
                      subst e_102
                      refine V_if_eq (tgt := 112) (pc := 105) C dX10_isWord_105 (by decide) (fun h_105 => ?_) (fun h_105 => ?_)
                      · have h_105 := bJ_0.mp h_105
                        refine V_iconst (v := 0) (pc := 112) C dX10_isWord_112 (by decide) ?_
                        refine V_zret (pc := 113) C hr hlk rfl dX10_isWord_113 ⟨_, rfl, ?_⟩
                        exact ⟨rfl, bP_f (fun z => h_105 z.2.2.2.2.2.2.2.2.2.2)⟩
                      · have h_105 := bJ_1.mp h_105
                        refine V_iconst (v := 1) (pc := 108) C dX10_isWord_108 (by decide) ?_
                        refine V_goto (tgt := 113) (pc := 109) C dX10_isWord_109 (by decide) ?_
                        refine V_zret (pc := 113) C hr hlk rfl dX10_isWord_113 ⟨_, rfl, ?_⟩
                        exact ⟨rfl, bP_t ⟨h_4, h_12, h8, h_35, h_44, h_53, h_63, h_73, h_83, h_94, h_105⟩⟩
theorem lxWd_all (f : Nat → Int32) : ∀ n a j, a ≤ j → j < lxWd f n a → 97 ≤ f j ∧ f j ≤ 122 := by
  intro n
  induction n with
  | zero => intro a j h1 h2; exact absurd h2 (by rw [lxWd]; omega)
  | succ n ih =>
    intro a j h1 h2
    unfold lxWd at h2
    by_cases h : 97 ≤ f a ∧ f a ≤ 122
    · rw [if_pos h] at h2
      by_cases e : j = a
      · rw [e]; exact h
      · exact ih (a + 1) j (by omega) h2
    · rw [if_neg h] at h2
      exact absurd h2 (by omega)
def wB (i j : Nat) : Int32 := (wTby.getD i []).getD j 0
theorem wB_z : ∀ i, 1 ≤ i → i < 13 → ∀ j, j < 8 → (j < wTlen.getD i 0 → ¬ wB i j = 0) ∧ (wTlen.getD i 0 ≤ j → wB i j = 0) ∧ wTlen.getD i 0 ≤ 6 := by
  have key : ((List.range 13).all fun i => i == 0 || (List.range 8).all fun j => (!(decide (j < wTlen.getD i 0)) || !(wB i j == 0)) && (!(decide (wTlen.getD i 0 ≤ j)) || wB i j == 0) && decide (wTlen.getD i 0 ≤ 6)) = true := by decide +kernel
  intro i h1 h2 j hj
  have k1 := List.all_eq_true.mp key i (List.mem_range.mpr h2)
  rw [Bool.or_eq_true, beq_iff_eq] at k1
  have k2 := List.all_eq_true.mp (k1.resolve_left (by omega)) j (List.mem_range.mpr hj)
  simp only [Bool.and_eq_true, Bool.or_eq_true, Bool.not_eq_true', decide_eq_false_iff_not, decide_eq_true_eq, beq_iff_eq, beq_eq_false_iff_ne] at k2
  exact ⟨fun e => k2.1.1.resolve_left (fun y => y e), fun e => k2.1.2.resolve_left (fun y => y e), k2.2⟩
theorem wd8_word {f : Nat → Int32} {q h i : Nat} (h1 : 1 ≤ i) (h2 : i < 13) (hl : ∀ j, q ≤ j → j < h → 97 ≤ f j ∧ f j ≤ 122) (hqh : q ≤ h) : wd8 f q h (wB i 0) (wB i 1) (wB i 2) (wB i 3) (wB i 4) (wB i 5) (wB i 6) (wB i 7) ↔ wIs f q h i = true := by
  rw [wIs_spec]
  have hz0 : ¬ (97 ≤ (0 : Int32) ∧ (0 : Int32) ≤ 122) := by decide
  constructor
  · rintro ⟨a8, b0, b1, b2, b3, b4, b5, b6, b7⟩
    have all : ∀ j, j < 8 → letL f q h j (wB i j) := by
      intro j hj
      match j, hj with
      | 0, _ => exact b0
      | 1, _ => exact b1
      | 2, _ => exact b2
      | 3, _ => exact b3
      | 4, _ => exact b4
      | 5, _ => exact b5
      | 6, _ => exact b6
      | 7, _ => exact b7
    have l6 := (wB_z i h1 h2 0 (by decide)).2.2
    have e1 : h = q + wTlen.getD i 0 := by
      rcases Nat.lt_trichotomy h (q + wTlen.getD i 0) with c | c | c
      · have hj : h - q < 8 := by omega
        rcases all (h - q) hj with ⟨y, _⟩ | ⟨_, y⟩
        · omega
        · exact absurd y ((wB_z i h1 h2 (h - q) hj).1 (by omega))
      · exact c
      · have hj : wTlen.getD i 0 < 8 := by omega
        rcases all (wTlen.getD i 0) hj with ⟨y1, y⟩ | ⟨y, _⟩
        · rw [(wB_z i h1 h2 _ hj).2.1 (Nat.le_refl _)] at y
          exact absurd (y ▸ hl _ (Nat.le_add_right _ _) y1) hz0
        · omega
    refine ⟨e1, fun k hk => ?_⟩
    rcases all k (by omega) with ⟨_, y⟩ | ⟨y, _⟩
    · exact y
    · omega
  · rintro ⟨e1, e2⟩
    have l6 := (wB_z i h1 h2 0 (by decide)).2.2
    have all : ∀ j, j < 8 → letL f q h j (wB i j) := by
      intro j hj
      by_cases c : j < wTlen.getD i 0
      · exact Or.inl ⟨by omega, e2 j c⟩
      · exact Or.inr ⟨by omega, (wB_z i h1 h2 j hj).2.1 (by omega)⟩
    exact ⟨by omega, all 0 (by decide), all 1 (by decide), all 2 (by decide), all 3 (by decide), all 4 (by decide), all 5 (by decide), all 6 (by decide), all 7 (by decide)⟩
/-- the reference's reader stands so -/
def rfS (M : wS) (f : Nat → Int32) (z : Nat) (q : rS) : Prop := (q.2.2.2.2 = -1 ∧ M.1 30 0 35 = 0 ∧ rTk M f z q.2.1 ∧ lxP f z q.2.1 = (q.1, q.2.1, q.2.2.1, q.2.2.2.1)) ∨ (¬ q.2.2.2.2 = -1 ∧ q.2.2.1 = -1 ∧ M.1 30 0 35 = 1 ∧ M.1 30 0 36 = q.2.2.2.2)
theorem hrF_le {f : Nat → Int32} {z q : Nat} (h : q ≤ z) : q ≤ hrF f z q ∧ hrF f z q ≤ z := by
  have h2 := lxWd_r f (z - q) q
  have h3 := lxDg_r f (z - q) q
  unfold hrF
  repeat' split
  all_goals omega
theorem rfS.bad {M : wS} {f : Nat → Int32} {z : Nat} {q : rS} (h : rfS M f z q) : M.1 30 0 35 = 0 ↔ q.2.2.2.2 = -1 := by
  rcases h with ⟨a, b, _⟩ | ⟨a, _, b, _⟩
  · exact ⟨fun _ => a, fun _ => b⟩
  · exact ⟨fun e => absurd (b.symm.trans e) (by decide), fun e => absurd e a⟩
theorem bP_congr {P Q : Prop} (h : P ↔ Q) : bP P = bP Q := by rw [propext h]
theorem r_word (hG : 56 ≤ G) (hd : 2 ≤ d) {M : wS} {F z : Nat} {f : Nat → Int32} (hE : rE M F z f) {q : rS} (hq : rfS M f z q) (i : Nat) (h1 : 1 ≤ i) (h2 : i < 13) : Ctr l D cy ad G d yX10_isWord cX10_isWord 9 (some .boolean) [.ref (ad 30 0), .int (wB i 0), .int (wB i 1), .int (wB i 2), .int (wB i 3), .int (wB i 4), .int (wB i 5), .int (wB i 6), .int (wB i 7)] M (rI fun x M' => M' = M ∧ x = bP (wq i q.2.2.1 q.2.2.2.1)) := by
  rcases hq with ⟨a1, a2, a3, a4⟩ | ⟨a1, a2, a3, a4⟩
  · have hr := hrF_le (f := f) a3.2.2.2.2.2
    refine Ctr.weaken (c_X10_isWord hG hd M hE (q := q.2.1) (h := hrF f z q.2.1) (fun _ => ⟨a3.1, a3.2.2.1, hr.2, a3.2.2.2.2.2⟩) _ _ _ _ _ _ _ _) ?_
    rintro r M' ⟨x, hx, e1, e2⟩
    refine ⟨x, hx, e1, e2.trans (bP_congr ?_)⟩
    have ht := tok_word (f := f) (z := z) (q := q.2.1) h1 h2
    rw [a4] at ht
    rw [← ht, a3.2.1]
    constructor
    · rintro ⟨_, y1, y2⟩
      refine ⟨y1, (wd8_word h1 h2 ?_ hr.1).mp y2⟩
      intro j hj1 hj2
      unfold hrF at hj2
      unfold kdF at y1
      by_cases c1 : z ≤ q.2.1
      · rw [if_pos c1] at y1
        exact absurd y1 (by decide)
      · rw [if_neg c1] at y1 hj2
        by_cases c2 : 97 ≤ f q.2.1 ∧ f q.2.1 ≤ 122
        · rw [if_pos c2] at hj2
          exact lxWd_all f _ _ _ hj1 hj2
        · rw [if_neg c2] at y1
          exfalso
          revert y1
          repeat' split
          all_goals decide
    · rintro ⟨y1, y2⟩
      refine ⟨a2, y1, (wd8_word h1 h2 ?_ hr.1).mpr y2⟩
      intro j hj1 hj2
      unfold hrF at hj2
      unfold kdF at y1
      by_cases c1 : z ≤ q.2.1
      · rw [if_pos c1] at y1
        exact absurd y1 (by decide)
      · rw [if_neg c1] at y1 hj2
        by_cases c2 : 97 ≤ f q.2.1 ∧ f q.2.1 ≤ 122
        · rw [if_pos c2] at hj2
          exact lxWd_all f _ _ _ hj1 hj2
        · rw [if_neg c2] at y1
          exfalso
          revert y1
          repeat' split
          all_goals decide
  · refine Ctr.weaken (c_X10_isWord hG hd M hE (q := 0) (h := 0) (fun e => absurd (a3.symm.trans e) (by decide)) _ _ _ _ _ _ _ _) ?_
    rintro r M' ⟨x, hx, e1, e2⟩
    refine ⟨x, hx, e1, e2.trans (bP_congr ⟨fun y => absurd (a3.symm.trans y.1) (by decide), fun y => ?_⟩)⟩
    rw [a2] at y
    exact absurd y (wq_not h1 h2 (Or.inr (Or.inr (Or.inl rfl))))
theorem l_inj {v w : Int32} : v.toInt64 = w.toInt64 ↔ v = w := by
  rw [← Int64.toInt_inj, Int32.toInt_toInt64, Int32.toInt_toInt64, Int32.toInt_inj]
theorem r_sign (hG : 56 ≤ G) {M : wS} {F z : Nat} {f : Nat → Int32} (hE : rE M F z f) {q : rS} (hq : rfS M f z q) {v : Int32} (hv : pSign v = true) : Ctr l D cy ad G d yX10_isSign cX10_isSign 2 (some .boolean) [.ref (ad 30 0), .int v] M (rI fun x M' => M' = M ∧ x = bI (q.2.2.1 = v)) := by
  have nm : ¬ (-1 : Int32) = v := fun e => by rw [← e] at hv; exact absurd hv (by decide)
  refine Ctr.of (lv0 := [(0, _), (1, _)]) (by decide) (Nat.le_of_ble_eq_true rfl) rfl ?_
  intro p e s m args below meth c C hr hlk _
  have C : CX p s m args c cX10_isSign 2 "CostsAgeModel" D cy ad G (wA ad G) (Rm d) d 0 0 := C
  rcases hq with ⟨a1, a2, a3, a4⟩ | ⟨a1, a2, a3, a4⟩
  · have ht := tok_sign (f := f) (z := z) (q := q.2.1) hv
    rw [a4] at ht
    refine V_aload_n (pc := 0) C 0 dX10_isSign_0 rfl rfl ?_
    refine get_X10_187 (pc := 1) C (wg hG (by decide) (by decide)) dX10_isSign_1 ?_
    refine V_if_ne (tgt := 29) (pc := 4) C dX10_isSign_4 (by decide) (fun h_4 => ?_) (fun h_4 => ?_)
    · exact absurd a2 h_4
    · refine V_aload_n (pc := 7) C 0 dX10_isSign_7 rfl rfl ?_
      refine get_X10_172 (pc := 8) C (wg hG (by decide) (by decide)) dX10_isSign_8 ?_
      refine V_iconst (v := 3) (pc := 11) C dX10_isSign_11 (by decide) ?_
      refine V_icmp_ne (tgt := 29) (pc := 12) C dX10_isSign_12 (by decide) (fun h_12 => ?_) (fun h_12 => ?_)
      · rw [a3.2.1] at h_12
        refine V_iconst (v := 0) (pc := 29) C dX10_isSign_29 (by decide) ?_
        refine V_zret (pc := 30) C hr hlk rfl dX10_isSign_30 ⟨_, rfl, ?_⟩
        exact ⟨rfl, bI_f (fun e => h_12 (ht.mpr e).1)⟩
      · rw [a3.2.1] at h_12
        refine V_aload_n (pc := 15) C 0 dX10_isSign_15 rfl rfl ?_
        refine get_X10_183 (pc := 16) C (wg hG (by decide) (by decide)) dX10_isSign_16 ?_
        refine V_iload_n (pc := 19) C 1 dX10_isSign_19 rfl rfl ?_
        refine V_i2l (pc := 20) C dX10_isSign_20 ?_
        refine V_lcmp (pc := 21) C dX10_isSign_21 ?_
        refine V_if_ne (tgt := 29) (pc := 22) C dX10_isSign_22 (by decide) (fun h_22 => ?_) (fun h_22 => ?_)
        · rw [lg_cmp_eq, a3.2.2.2.2.1 h_12, l_inj] at h_22
          refine V_iconst (v := 0) (pc := 29) C dX10_isSign_29 (by decide) ?_
          refine V_zret (pc := 30) C hr hlk rfl dX10_isSign_30 ⟨_, rfl, ?_⟩
          exact ⟨rfl, bI_f (fun e => h_22 (ht.mpr e).2)⟩
        · rw [lg_cmp_eq, a3.2.2.2.2.1 h_12, l_inj] at h_22
          refine V_iconst (v := 1) (pc := 25) C dX10_isSign_25 (by decide) ?_
          refine V_goto (tgt := 30) (pc := 26) C dX10_isSign_26 (by decide) ?_
          refine V_zret (pc := 30) C hr hlk rfl dX10_isSign_30 ⟨_, rfl, ?_⟩
          exact ⟨rfl, bI_t (ht.mp ⟨h_12, h_22⟩)⟩
  ·
    refine V_aload_n (pc := 0) C 0 dX10_isSign_0 rfl rfl ?_
    refine get_X10_187 (pc := 1) C (wg hG (by decide) (by decide)) dX10_isSign_1 ?_
    refine V_if_ne (tgt := 29) (pc := 4) C dX10_isSign_4 (by decide) (fun h_4 => ?_) (fun h_4 => ?_)
    · refine V_iconst (v := 0) (pc := 29) C dX10_isSign_29 (by decide) ?_
      refine V_zret (pc := 30) C hr hlk rfl dX10_isSign_30 ⟨_, rfl, ?_⟩
      exact ⟨rfl, bI_f (fun e => nm (a2.symm.trans e))⟩
    · rw [a3] at h_4
      exact absurd h_4 (by decide)
/-- nothing but the reference's reader has changed -/
def frR (M M' : wS) : Prop := (∀ g i, g ≠ 30 → M'.1 g i = M.1 g i) ∧ ∀ k, k < 30 ∨ 36 < k → M'.1 30 0 k = M.1 30 0 k
theorem frR.rf {M : wS} : frR M M := ⟨fun _ _ _ => rfl, fun _ _ => rfl⟩
theorem frR.tr {M M1 M2 : wS} (h : frR M M1) (h2 : frR M1 M2) : frR M M2 := ⟨fun g i a => (h2.1 g i a).trans (h.1 g i a), fun k a => (h2.2 k a).trans (h.2 k a)⟩
theorem frN.r {M M' : wS} (h : frN M M') : frR M M' := ⟨h.1, fun k a => h.2 k (by omega) (by omega) (by omega)⟩
theorem frR.set {M : wS} {k : Nat} (x : Int32) (hk : 30 ≤ k ∧ k ≤ 36) : frR M (mset M 30 0 k x) := by
  refine ⟨fun g i h => ?_, fun j a => ?_⟩
  · funext j
    rw [mset_at, if_neg (fun e => h e.1)]
  · rw [mset_at, if_neg (fun e => by omega)]
theorem rE.rr {M M' : wS} {F z : Nat} {f : Nat → Int32} (h : frR M M') (hE : rE M F z f) : rE M' F z f := by
  obtain ⟨h1, h2, h3, h4, h5, h6⟩ := hE
  exact ⟨by rw [h.2 28 (by omega)]; exact h1, by rw [h.2 29 (by omega)]; exact h2, h3, h4, fun k hk => by rw [h.1 31 0 (by decide)]; exact h5 k hk, h6⟩
theorem r_next (hG : 56 ≤ G) (hd : 2 ≤ d) {M : wS} {F z : Nat} {f : Nat → Int32} (hE : rE M F z f) {q : rS} (hq : rfS M f z q) (hn : q.2.2.2.2 = -1) (ht : ¬ q.2.2.1 = -1) : Ctr l D cy ad G d yX10_next cX10_next 3 none [.ref (ad 30 0)] M (rV fun M' => frR M M' ∧ M'.1 30 0 34 = M.1 30 0 34 ∧ rfS M' f z (nxQ f z q)) := by
  rcases hq with ⟨a1, a2, a3, a4⟩ | ⟨a1, a2, a3, a4⟩
  · have hh : hrF f z q.2.1 = q.1 := by
      rw [hr_at (by rw [a4]; exact ht), a4]
    have hr := hrF_le (f := f) a3.2.2.2.2.2
    have h3 := a3.2.2.1
    rw [hh] at h3 hr
    refine Ctr.weaken (c_X10_next hG hd M hE h3 hr.2) ?_
    rintro r M' ⟨hr0, b1, b2⟩
    have hs := lxSk_r f (z - q.1) q.1
    have hp := (lxP_ok f (z := z) (p := lxSk f (z - q.1) q.1) (by omega)).1
    refine ⟨hr0, b1.r, b1.2 34 (by decide) (by decide) (by decide), Or.inl ⟨a1, ?_, ?_, ?_⟩⟩
    · rw [b1.2 35 (by decide) (by decide) (by decide)]
      exact a2
    · show rTk M' f z (lxP f z (lxSk f (z - q.1) q.1)).2.1
      rw [hp]
      exact b2
    · show lxP f z (lxP f z (lxSk f (z - q.1) q.1)).2.1 = lxP f z (lxSk f (z - q.1) q.1)
      rw [hp]
  · exact absurd hn a1
theorem r_fail (hG : 56 ≤ G) {M : wS} {F z : Nat} {f : Nat → Int32} (hE : rE M F z f) {q : rS} (hq : rfS M f z q) : Ctr l D cy ad G d yX10_fail cX10_fail 1 none [.ref (ad 30 0)] M (rV fun M' => frR M M' ∧ M'.1 30 0 34 = M.1 30 0 34 ∧ rfS M' f z (rfQ q)) := by
  have hz := hE.2.2.1
  refine Ctr.weaken (c_X10_fail hG M) ?_
  rintro r M' ⟨hr0, rfl⟩
  rcases hq with ⟨a1, a2, a3, a4⟩ | ⟨a1, a2, a3, a4⟩
  · rw [if_pos a2]
    have hq2 := a3.2.2.2.2.2
    refine ⟨hr0, (frR.set _ (by omega)).tr (frR.set _ (by omega)), by rw [mset_at, if_neg (by omega), mset_at, if_neg (by omega)], Or.inr ⟨?_, rfl, ?_, ?_⟩⟩
    · show ¬ (if q.2.2.2.2 = -1 then nI q.2.1 else q.2.2.2.2) = -1
      rw [if_pos a1]
      intro e
      have h3 := nI_pos' (n := q.2.1) (by omega)
      rw [e] at h3
      exact absurd h3 (by decide)
    · rw [mset_at, if_neg (by omega), mset_at, if_pos ⟨rfl, rfl, rfl⟩]
    · rw [mset_at, if_pos ⟨rfl, rfl, rfl⟩]
      show _ = (if q.2.2.2.2 = -1 then nI q.2.1 else q.2.2.2.2)
      rw [if_pos a1]
      exact a3.1
  · rw [if_neg (fun e => absurd (a3.symm.trans e) (by decide))]
    refine ⟨hr0, frR.rf, rfl, Or.inr ⟨?_, rfl, a3, ?_⟩⟩
    · show ¬ (if q.2.2.2.2 = -1 then nI q.2.1 else q.2.2.2.2) = -1
      rw [if_neg a1]
      exact a1
    · show _ = (if q.2.2.2.2 = -1 then nI q.2.1 else q.2.2.2.2)
      rw [if_neg a1]
      exact a4
theorem rfS.s34 {M : wS} {f : Nat → Int32} {z : Nat} {q : rS} (h : rfS M f z q) (x : Int32) : rfS (mset M 30 0 34 x) f z q := by
  have key : ∀ k, ¬ k = 34 → (mset M 30 0 34 x).1 30 0 k = M.1 30 0 k := fun k hk => by rw [mset_at, if_neg (by omega)]
  rcases h with ⟨a1, a2, a3, a4⟩ | ⟨a1, a2, a3, a4⟩
  · refine Or.inl ⟨a1, by rw [key 35 (by decide)]; exact a2, ⟨by rw [key 32 (by decide)]; exact a3.1, by rw [key 31 (by decide)]; exact a3.2.1, by rw [key 30 (by decide)]; exact a3.2.2.1, a3.2.2.2.1, a3.2.2.2.2.1, a3.2.2.2.2.2⟩, a4⟩
  · exact Or.inr ⟨a1, a2, by rw [key 35 (by decide)]; exact a3, by rw [key 36 (by decide)]; exact a4⟩
theorem r_opens (hG : 56 ≤ G) (hd : 3 ≤ d) {M : wS} {F z : Nat} {f : Nat → Int32} (hE : rE M F z f) {q : rS} (hq : rfS M f z q) (hn : q.2.2.2.2 = -1) (ht : ¬ q.2.2.1 = -1) {o : Nat} (ho : M.1 30 0 34 = nI o) (ho5 : o ≤ 5) : Ctr l D cy ad G d yX10_opens cX10_opens 1 (some .boolean) [.ref (ad 30 0)] M (rI fun x M' => x = bI (o < 5) ∧ frR M M' ∧ M'.1 30 0 34 = nI (if o < 5 then o + 1 else o) ∧ rfS M' f z (if o < 5 then nxQ f z q else rfQ q)) := by
  refine Ctr.of (lv0 := [(0, _)]) (by decide) (Nat.le_of_ble_eq_true rfl) rfl ?_
  intro p e s m args below meth c C hr hlk _
  have C : CX p s m args c cX10_opens 1 "CostsAgeModel" D cy ad G (wA ad G) (Rm d) d 0 0 := C
  refine V_aload_n (pc := 0) C 0 dX10_opens_0 rfl rfl ?_
  refine get_X10_198 (pc := 1) C (wg hG (by decide) (by decide)) dX10_opens_1 ?_
  refine V_iconst (v := 5) (pc := 4) C dX10_opens_4 (by decide) ?_
  refine V_icmp_ne (tgt := 14) (pc := 5) C dX10_opens_5 (by decide) (fun h_5 => ?_) (fun h_5 => ?_)
  · rw [ho] at h_5
    have hlt : o < 5 := Nat.lt_of_le_of_ne ho5 (fun e => h_5 (by rw [e]; rfl))
    refine V_aload_n (pc := 14) C 0 dX10_opens_14 rfl rfl ?_
    refine V_dup (pc := 15) C dX10_opens_15 rfl ?_
    refine get_X10_198 (pc := 16) C (wg hG (by decide) (by decide)) dX10_opens_16 ?_
    refine V_iconst (v := 1) (pc := 19) C dX10_opens_19 (by decide) ?_
    refine V_iadd (pc := 20) C dX10_opens_20 ?_
    refine put_X10_198 (pc := 21) C (wg hG (by decide) (by decide)) dX10_opens_21 ?_
    rw [ho, nI_1]
    refine V_aload_n (pc := 24) C 0 dX10_opens_24 rfl rfl ?_
    refine call_X10_204 (pc := 25) C (r_next (d := d - 1) hG (by omega) (hE.rr (frR.set _ (by omega))) (hq.s34 _) hn ht) (by omega) (wg hG (by decide) (by decide)) (Nat.le_of_ble_eq_true rfl) dX10_opens_25 (fun M_25 h_25 => ?_)
    obtain ⟨f1, f2, f3⟩ := h_25
    refine V_iconst (v := 1) (pc := 28) C dX10_opens_28 (by decide) ?_
    refine V_zret (pc := 29) C hr hlk rfl dX10_opens_29 ⟨_, rfl, ?_⟩
    exact ⟨bI_t hlt, (frR.set _ (by omega)).tr f1, by rw [if_pos hlt, f2, mset_at, if_pos ⟨rfl, rfl, rfl⟩], by rw [if_pos hlt]; exact f3⟩
  · rw [ho] at h_5
    have hlt : ¬ o < 5 := fun e => absurd ((nI_eq (b := 5) (by omega) (by decide)).mp h_5) (by omega)
    refine V_aload_n (pc := 8) C 0 dX10_opens_8 rfl rfl ?_
    refine call_X10_201 (pc := 9) C (r_fail (d := d - 1) hG hE hq) (by omega) (wg hG (by decide) (by decide)) (Nat.le_of_ble_eq_true rfl) dX10_opens_9 (fun M_9 h_9 => ?_)
    obtain ⟨f1, f2, f3⟩ := h_9
    refine V_iconst (v := 0) (pc := 12) C dX10_opens_12 (by decide) ?_
    refine V_zret (pc := 13) C hr hlk rfl dX10_opens_13 ⟨_, rfl, ?_⟩
    exact ⟨bI_f hlt, f1, by rw [if_neg hlt, f2]; exact ho, by rw [if_neg hlt]; exact f3⟩
theorem wq_lo {i : Nat} (h : i ≤ 6) {tok pc : Int32} : wq i tok pc ↔ tok = 2 ∧ pc = -1 - nI (i - 1) := by
  unfold wq
  rw [if_pos h]
theorem nm_ix : ∀ i, 1 ≤ i → i < 7 → (-1 - (-1 - nI (i - 1))).toNatClampNeg = i - 1 := by
  have key : ∀ i, i < 7 → 1 ≤ i → (-1 - (-1 - nI (i - 1))).toNatClampNeg = i - 1 := by decide +kernel
  exact fun i a b => key i b a
theorem tok2 {f : Nat → Int32} {z q : Nat} (h : (lxP f z q).2.2.1 = 2) : kdF f z q = 1 ∧ ∃ i, 1 ≤ i ∧ i ≤ 6 ∧ (lxP f z q).2.2.2 = -1 - nI (i - 1) := by
  revert h
  unfold lxP kdF
  by_cases c1 : z ≤ q
  · rw [if_pos c1]
    exact fun e => absurd (show (0 : Int32) = 2 from e) (by decide)
  · rw [if_neg c1, if_neg c1]
    by_cases c2 : 97 ≤ f q ∧ f q ≤ 122
    · rw [if_pos c2, if_pos c2]
      unfold lxW
      rcases nm_cases f q (lxWd f (z - q) q) with ⟨j, a1, a2, a3, a4⟩ | ⟨a1, a2⟩
      · intro e
        refine ⟨rfl, j, a1, a2, ?_⟩
        by_cases c3 : nmOf f q (lxWd f (z - q) q) = -1
        · rw [if_pos c3] at e
          exact absurd (Or.inr e) (kwOf_n _ _ _)
        · rw [if_neg c3, a4]
      · rw [if_pos a2]
        exact fun e => absurd (Or.inr e) (kwOf_n _ _ _)
    · rw [if_neg c2, if_neg c2]
      by_cases c3 : 48 ≤ f q ∧ f q ≤ 57
      · rw [if_pos c3]
        unfold lxD
        by_cases c4 : lxDg f (z - q) q - q ≤ 4
        · rw [if_pos c4]
          exact fun e => absurd (show (1 : Int32) = 2 from e) (by decide)
        · rw [if_neg c4]
          exact fun e => absurd (show (-1 : Int32) = 2 from e) (by decide)
      · rw [if_neg c3]
        by_cases c5 : pSign (f q) = true
        · simp only [if_pos c5]
          exact fun e => absurd (Or.inr e) (pSign_n c5)
        · simp only [if_neg c5]
          exact fun e => absurd e (by decide)
theorem r_name (hG : 56 ≤ G) (hd : 3 ≤ d) {M : wS} {F z : Nat} {f : Nat → Int32} (hE : rE M F z f) {q : rS} (hq : rfS M f z q) (h2 : q.2.2.1 = 2 → ∃ i, 1 ≤ i ∧ i ≤ 6 ∧ q.2.2.2.1 = -1 - nI (i - 1)) : Ctr l D cy ad G d yX10_name cX10_name 1 (some .int) [.ref (ad 30 0)] M (rI fun x M' => (q.2.2.1 = 2 → M' = M ∧ x = M.1 30 0 (22 + (-1 - q.2.2.2.1).toNatClampNeg)) ∧ (¬ q.2.2.1 = 2 → frR M M' ∧ M'.1 30 0 34 = M.1 30 0 34 ∧ rfS M' f z (rfQ q))) := by
  refine Ctr.of (lv0 := [(0, _)]) (by decide) (Nat.le_of_ble_eq_true rfl) rfl ?_
  intro p e s m args below meth c C hr hlk _
  have C : CX p s m args c cX10_name 1 "CostsAgeModel" D cy ad G (wA ad G) (Rm d) d 0 0 := C
  refine V_aload_n (pc := 0) C 0 dX10_name_0 rfl rfl ?_
  refine V_bipush (v := 97) (pc := 1) C dX10_name_1 (by decide) ?_
  refine V_bipush (v := 103) (pc := 3) C dX10_name_3 (by decide) ?_
  refine V_bipush (v := 101) (pc := 5) C dX10_name_5 (by decide) ?_
  refine V_iconst (v := 0) (pc := 7) C dX10_name_7 (by decide) ?_
  refine V_iconst (v := 0) (pc := 8) C dX10_name_8 (by decide) ?_
  refine V_iconst (v := 0) (pc := 9) C dX10_name_9 (by decide) ?_
  refine V_iconst (v := 0) (pc := 10) C dX10_name_10 (by decide) ?_
  refine V_iconst (v := 0) (pc := 11) C dX10_name_11 (by decide) ?_
  refine call_X10_207 (pc := 12) C (r_word (d := d - 1) hG (by omega) hE hq 1 (by decide) (by decide)) (by omega) (wg hG (by decide) (by decide)) (Nat.le_of_ble_eq_true rfl) dX10_name_12 (fun x_12 M_12 h_12 => ?_)
  obtain ⟨e_12, rfl⟩ := h_12
  have e_12 := e_12.symm
  subst e_12
  refine V_if_eq (tgt := 23) (pc := 15) C dX10_name_15 (by decide) (fun h_15 => ?_) (fun h_15 => ?_)
  · have h_15 := bJ_0.mp h_15
    refine V_aload_n (pc := 23) C 0 dX10_name_23 rfl rfl ?_
    refine V_bipush (v := 115) (pc := 24) C dX10_name_24 (by decide) ?_
    refine V_bipush (v := 105) (pc := 26) C dX10_name_26 (by decide) ?_
    refine V_bipush (v := 122) (pc := 28) C dX10_name_28 (by decide) ?_
    refine V_bipush (v := 101) (pc := 30) C dX10_name_30 (by decide) ?_
    refine V_iconst (v := 0) (pc := 32) C dX10_name_32 (by decide) ?_
    refine V_iconst (v := 0) (pc := 33) C dX10_name_33 (by decide) ?_
    refine V_iconst (v := 0) (pc := 34) C dX10_name_34 (by decide) ?_
    refine V_iconst (v := 0) (pc := 35) C dX10_name_35 (by decide) ?_
    refine call_X10_207 (pc := 36) C (r_word (d := d - 1) hG (by omega) hE hq 2 (by decide) (by decide)) (by omega) (wg hG (by decide) (by decide)) (Nat.le_of_ble_eq_true rfl) dX10_name_36 (fun x_36 M_36 h_36 => ?_)
    obtain ⟨e_36, rfl⟩ := h_36
    have e_36 := e_36.symm
    subst e_36
    refine V_if_eq (tgt := 47) (pc := 39) C dX10_name_39 (by decide) (fun h_39 => ?_) (fun h_39 => ?_)
    · have h_39 := bJ_0.mp h_39
      refine V_aload_n (pc := 47) C 0 dX10_name_47 rfl rfl ?_
      refine V_bipush (v := 118) (pc := 48) C dX10_name_48 (by decide) ?_
      refine V_bipush (v := 97) (pc := 50) C dX10_name_50 (by decide) ?_
      refine V_bipush (v := 108) (pc := 52) C dX10_name_52 (by decide) ?_
      refine V_bipush (v := 117) (pc := 54) C dX10_name_54 (by decide) ?_
      refine V_bipush (v := 101) (pc := 56) C dX10_name_56 (by decide) ?_
      refine V_iconst (v := 0) (pc := 58) C dX10_name_58 (by decide) ?_
      refine V_iconst (v := 0) (pc := 59) C dX10_name_59 (by decide) ?_
      refine V_iconst (v := 0) (pc := 60) C dX10_name_60 (by decide) ?_
      refine call_X10_207 (pc := 61) C (r_word (d := d - 1) hG (by omega) hE hq 3 (by decide) (by decide)) (by omega) (wg hG (by decide) (by decide)) (Nat.le_of_ble_eq_true rfl) dX10_name_61 (fun x_61 M_61 h_61 => ?_)
      obtain ⟨e_61, rfl⟩ := h_61
      have e_61 := e_61.symm
      subst e_61
      refine V_if_eq (tgt := 72) (pc := 64) C dX10_name_64 (by decide) (fun h_64 => ?_) (fun h_64 => ?_)
      · have h_64 := bJ_0.mp h_64
        refine V_aload_n (pc := 72) C 0 dX10_name_72 rfl rfl ?_
        refine V_bipush (v := 119) (pc := 73) C dX10_name_73 (by decide) ?_
        refine V_bipush (v := 101) (pc := 75) C dX10_name_75 (by decide) ?_
        refine V_bipush (v := 101) (pc := 77) C dX10_name_77 (by decide) ?_
        refine V_bipush (v := 107) (pc := 79) C dX10_name_79 (by decide) ?_
        refine V_iconst (v := 0) (pc := 81) C dX10_name_81 (by decide) ?_
        refine V_iconst (v := 0) (pc := 82) C dX10_name_82 (by decide) ?_
        refine V_iconst (v := 0) (pc := 83) C dX10_name_83 (by decide) ?_
        refine V_iconst (v := 0) (pc := 84) C dX10_name_84 (by decide) ?_
        refine call_X10_207 (pc := 85) C (r_word (d := d - 1) hG (by omega) hE hq 4 (by decide) (by decide)) (by omega) (wg hG (by decide) (by decide)) (Nat.le_of_ble_eq_true rfl) dX10_name_85 (fun x_85 M_85 h_85 => ?_)
        obtain ⟨e_85, rfl⟩ := h_85
        have e_85 := e_85.symm
        subst e_85
        refine V_if_eq (tgt := 96) (pc := 88) C dX10_name_88 (by decide) (fun h_88 => ?_) (fun h_88 => ?_)
        · have h_88 := bJ_0.mp h_88
          refine V_aload_n (pc := 96) C 0 dX10_name_96 rfl rfl ?_
          refine V_bipush (v := 102) (pc := 97) C dX10_name_97 (by decide) ?_
          refine V_bipush (v := 101) (pc := 99) C dX10_name_99 (by decide) ?_
          refine V_bipush (v := 101) (pc := 101) C dX10_name_101 (by decide) ?_
          refine V_iconst (v := 0) (pc := 103) C dX10_name_103 (by decide) ?_
          refine V_iconst (v := 0) (pc := 104) C dX10_name_104 (by decide) ?_
          refine V_iconst (v := 0) (pc := 105) C dX10_name_105 (by decide) ?_
          refine V_iconst (v := 0) (pc := 106) C dX10_name_106 (by decide) ?_
          refine V_iconst (v := 0) (pc := 107) C dX10_name_107 (by decide) ?_
          refine call_X10_207 (pc := 108) C (r_word (d := d - 1) hG (by omega) hE hq 5 (by decide) (by decide)) (by omega) (wg hG (by decide) (by decide)) (Nat.le_of_ble_eq_true rfl) dX10_name_108 (fun x_108 M_108 h_108 => ?_)
          obtain ⟨e_108, rfl⟩ := h_108
          have e_108 := e_108.symm
          subst e_108
          refine V_if_eq (tgt := 119) (pc := 111) C dX10_name_111 (by decide) (fun h_111 => ?_) (fun h_111 => ?_)
          · have h_111 := bJ_0.mp h_111
            refine V_aload_n (pc := 119) C 0 dX10_name_119 rfl rfl ?_
            refine V_bipush (v := 111) (pc := 120) C dX10_name_120 (by decide) ?_
            refine V_bipush (v := 119) (pc := 122) C dX10_name_122 (by decide) ?_
            refine V_bipush (v := 110) (pc := 124) C dX10_name_124 (by decide) ?_
            refine V_iconst (v := 0) (pc := 126) C dX10_name_126 (by decide) ?_
            refine V_iconst (v := 0) (pc := 127) C dX10_name_127 (by decide) ?_
            refine V_iconst (v := 0) (pc := 128) C dX10_name_128 (by decide) ?_
            refine V_iconst (v := 0) (pc := 129) C dX10_name_129 (by decide) ?_
            refine V_iconst (v := 0) (pc := 130) C dX10_name_130 (by decide) ?_
            refine call_X10_207 (pc := 131) C (r_word (d := d - 1) hG (by omega) hE hq 6 (by decide) (by decide)) (by omega) (wg hG (by decide) (by decide)) (Nat.le_of_ble_eq_true rfl) dX10_name_131 (fun x_131 M_131 h_131 => ?_)
            obtain ⟨e_131, rfl⟩ := h_131
            have e_131 := e_131.symm
            subst e_131
            refine V_if_eq (tgt := 142) (pc := 134) C dX10_name_134 (by decide) (fun h_134 => ?_) (fun h_134 => ?_)
            · have h_134 := bJ_0.mp h_134
              refine V_aload_n (pc := 142) C 0 dX10_name_142 rfl rfl ?_
              refine call_X10_201 (pc := 143) C (r_fail (d := d - 1) hG hE hq) (by omega) (wg hG (by decide) (by decide)) (Nat.le_of_ble_eq_true rfl) dX10_name_143 (fun M_143 h_143 => ?_)
              obtain ⟨f1, f2, f3⟩ := h_143
              refine V_iconst (v := 0) (pc := 146) C dX10_name_146 (by decide) ?_
              refine V_iret (pc := 147) C hr hlk dX10_name_147 ⟨_, rfl, ?_⟩
              refine ⟨fun e => ?_, fun _ => ⟨f1, f2, f3⟩⟩
              exfalso
              obtain ⟨i, i1, i6, hi⟩ := h2 e
              have hc : i = 1 ∨ i = 2 ∨ i = 3 ∨ i = 4 ∨ i = 5 ∨ i = 6 := by omega
              rcases hc with rfl | rfl | rfl | rfl | rfl | rfl
              · exact h_15 ((wq_lo (by decide)).mpr ⟨e, hi⟩)
              · exact h_39 ((wq_lo (by decide)).mpr ⟨e, hi⟩)
              · exact h_64 ((wq_lo (by decide)).mpr ⟨e, hi⟩)
              · exact h_88 ((wq_lo (by decide)).mpr ⟨e, hi⟩)
              · exact h_111 ((wq_lo (by decide)).mpr ⟨e, hi⟩)
              · exact h_134 ((wq_lo (by decide)).mpr ⟨e, hi⟩)
            · have h_134 := bJ_1.mp h_134
              refine V_aload_n (pc := 137) C 0 dX10_name_137 rfl rfl ?_
              refine get_X10_226 (pc := 138) C (wg hG (by decide) (by decide)) dX10_name_138 ?_
              refine V_iret (pc := 141) C hr hlk dX10_name_141 ⟨_, rfl, ?_⟩
              rw [wq_lo (by decide)] at h_134
              exact ⟨fun _ => ⟨rfl, by rw [h_134.2, nm_ix 6 (by decide) (by decide)]⟩, fun e => absurd h_134.1 e⟩
          · have h_111 := bJ_1.mp h_111
            refine V_aload_n (pc := 114) C 0 dX10_name_114 rfl rfl ?_
            refine get_X10_223 (pc := 115) C (wg hG (by decide) (by decide)) dX10_name_115 ?_
            refine V_iret (pc := 118) C hr hlk dX10_name_118 ⟨_, rfl, ?_⟩
            rw [wq_lo (by decide)] at h_111
            exact ⟨fun _ => ⟨rfl, by rw [h_111.2, nm_ix 5 (by decide) (by decide)]⟩, fun e => absurd h_111.1 e⟩
        · have h_88 := bJ_1.mp h_88
          refine V_aload_n (pc := 91) C 0 dX10_name_91 rfl rfl ?_
          refine get_X10_220 (pc := 92) C (wg hG (by decide) (by decide)) dX10_name_92 ?_
          refine V_iret (pc := 95) C hr hlk dX10_name_95 ⟨_, rfl, ?_⟩
          rw [wq_lo (by decide)] at h_88
          exact ⟨fun _ => ⟨rfl, by rw [h_88.2, nm_ix 4 (by decide) (by decide)]⟩, fun e => absurd h_88.1 e⟩
      · have h_64 := bJ_1.mp h_64
        refine V_aload_n (pc := 67) C 0 dX10_name_67 rfl rfl ?_
        refine get_X10_217 (pc := 68) C (wg hG (by decide) (by decide)) dX10_name_68 ?_
        refine V_iret (pc := 71) C hr hlk dX10_name_71 ⟨_, rfl, ?_⟩
        rw [wq_lo (by decide)] at h_64
        exact ⟨fun _ => ⟨rfl, by rw [h_64.2, nm_ix 3 (by decide) (by decide)]⟩, fun e => absurd h_64.1 e⟩
    · have h_39 := bJ_1.mp h_39
      refine V_aload_n (pc := 42) C 0 dX10_name_42 rfl rfl ?_
      refine get_X10_214 (pc := 43) C (wg hG (by decide) (by decide)) dX10_name_43 ?_
      refine V_iret (pc := 46) C hr hlk dX10_name_46 ⟨_, rfl, ?_⟩
      rw [wq_lo (by decide)] at h_39
      exact ⟨fun _ => ⟨rfl, by rw [h_39.2, nm_ix 2 (by decide) (by decide)]⟩, fun e => absurd h_39.1 e⟩
  · have h_15 := bJ_1.mp h_15
    refine V_aload_n (pc := 18) C 0 dX10_name_18 rfl rfl ?_
    refine get_X10_211 (pc := 19) C (wg hG (by decide) (by decide)) dX10_name_19 ?_
    refine V_iret (pc := 22) C hr hlk dX10_name_22 ⟨_, rfl, ?_⟩
    rw [wq_lo (by decide)] at h_15
    exact ⟨fun _ => ⟨rfl, by rw [h_15.2, nm_ix 1 (by decide) (by decide)]⟩, fun e => absurd h_15.1 e⟩
end S52
