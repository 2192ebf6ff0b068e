section S43
variable {l : Launch} {D : va_G} {cy : Nat → ClassId} {ad : Nat → Nat → Nat} {G d : Nat}
/-- what a WORD becomes -/
def kWord (M : wS) (f : Nat → Int32) (q a : Nat) : wS := if nmOf f q a = -1 then mset M 11 0 4 (kwOf f q a) else mset (mset M 11 0 4 2) 11 0 5 (-1 - nmOf f q a)
theorem lp_X3_takeWord {p : Program} {e : Env} {s : State} {m : MethodId} {args : Array Value} {below : List Frame} {meth : Method} {c : Code} (C : CX p s m args c cX3_takeWord 2 "CostsAge$Reader" D cy ad G (wA ad G) (Rm d) d 0 0) (hr : meth.sig.returnType = none) (hlk : meth.locks = false) (hG : 30 ≤ G) (hd : 1 ≤ d) (M0 : wS) {z : Nat} (hz : M0.1 11 0 1 = nI z) (hz1 : z ≤ 160) (Qf : wS → Prop) : ∀ (n a : Nat), a + n = z → V p l e (Rm d) s m args below meth c 2 D cy ad G (wA ad G) 0 0 (MQ below (wQ D cy ad G (rV Qf)) args s 0 0 (wA ad G)) 39 [(0, .ref (ad 11 0))] [] (mset M0 11 0 2 (nI (lxWd (M0.1 12 0) n a))) → V p l e (Rm d) s m args below meth c 2 D cy ad G (wA ad G) 0 0 (MQ below (wQ D cy ad G (rV Qf)) args s 0 0 (wA ad G)) 0 [(0, .ref (ad 11 0))] [] (mset M0 11 0 2 (nI a)) := by
  intro n
  induction n with
  | zero =>
    intro a ha hQ
    have g1 : (mset M0 11 0 2 (nI a)).1 11 0 1 = nI z := by rw [mset_at, if_neg (by omega)]; exact hz
    have g2 : (mset M0 11 0 2 (nI a)).1 11 0 2 = nI a := by rw [mset_at, if_pos ⟨rfl, rfl, rfl⟩]
    refine V_aload_n (pc := 0) C 0 dX3_takeWord_0 rfl rfl ?_
    refine get_X3_19 (pc := 1) C (wg hG (by decide) (by decide)) dX3_takeWord_1 ?_
    refine V_aload_n (pc := 4) C 0 dX3_takeWord_4 rfl rfl ?_
    refine get_X3_15 (pc := 5) C (wg hG (by decide) (by decide)) dX3_takeWord_5 ?_
    refine V_icmp_ge (tgt := 39) (pc := 8) C dX3_takeWord_8 (by decide) (fun h_8 => ?_) (fun h_8 => ?_)
    · exact hQ
    · rw [g1, g2] at h_8
      exact absurd (nI_le (by omega) (by omega)) h_8
  | succ n ih =>
    intro a ha hQ
    have g1 : (mset M0 11 0 2 (nI a)).1 11 0 1 = nI z := by rw [mset_at, if_neg (by omega)]; exact hz
    have g2 : (mset M0 11 0 2 (nI a)).1 11 0 2 = nI a := by rw [mset_at, if_pos ⟨rfl, rfl, rfl⟩]
    have g3 : (mset M0 11 0 2 (nI a)).1 12 0 a = M0.1 12 0 a := by rw [mset_at, if_neg (by omega)]
    unfold lxWd at hQ
    refine V_aload_n (pc := 0) C 0 dX3_takeWord_0 rfl rfl ?_
    refine get_X3_19 (pc := 1) C (wg hG (by decide) (by decide)) dX3_takeWord_1 ?_
    refine V_aload_n (pc := 4) C 0 dX3_takeWord_4 rfl rfl ?_
    refine get_X3_15 (pc := 5) C (wg hG (by decide) (by decide)) dX3_takeWord_5 ?_
    refine V_icmp_ge (tgt := 39) (pc := 8) C dX3_takeWord_8 (by decide) (fun h_8 => ?_) (fun h_8 => ?_)
    · rw [g1, g2] at h_8
      exact absurd h_8 (nI_ge (by omega) (by omega))
    · refine V_aload_n (pc := 11) C 0 dX3_takeWord_11 rfl rfl ?_
      refine get_X3_9 (pc := 12) C (wg hG (by decide) (by decide)) dX3_takeWord_12 ?_
      refine V_aload_n (pc := 15) C 0 dX3_takeWord_15 rfl rfl ?_
      refine get_X3_19 (pc := 16) C (wg hG (by decide) (by decide)) dX3_takeWord_16 ?_
      refine V_iald (pc := 19) C (a) g2 (by omega) (Nat.le_of_ble_eq_true rfl) (wg hG (by decide) (by decide)) wF_12 dX3_takeWord_19 ?_
      refine call_X3_91 (pc := 20) C (c_X3_isLetter (d := d - 1) _ _) (by omega) (Nat.le_of_ble_eq_true rfl) dX3_takeWord_20 (fun x_20 M_20 h_20 => ?_)
      obtain ⟨e_20, rfl⟩ := h_20
      have e_20 := e_20.symm
      subst e_20
      refine V_if_eq (tgt := 39) (pc := 23) C dX3_takeWord_23 (by decide) (fun h_23 => ?_) (fun h_23 => ?_)
      · have h_23 := bJ_0.mp h_23
        rw [g3] at h_23
        rw [if_neg h_23] at hQ
        exact hQ
      · have h_23 := bJ_1.mp h_23
        rw [g3] at h_23
        rw [if_pos h_23] at hQ
        refine V_aload_n (pc := 26) C 0 dX3_takeWord_26 rfl rfl ?_
        refine V_dup (pc := 27) C dX3_takeWord_27 rfl ?_
        refine get_X3_19 (pc := 28) C (wg hG (by decide) (by decide)) dX3_takeWord_28 ?_
        refine V_iconst (v := 1) (pc := 31) C dX3_takeWord_31 (by decide) ?_
        refine V_iadd (pc := 32) C dX3_takeWord_32 ?_
        refine put_X3_19 (pc := 33) C (wg hG (by decide) (by decide)) dX3_takeWord_33 ?_
        rw [g2, mset_mset, nI_1]
        refine V_goto (tgt := 0) (pc := 36) C dX3_takeWord_36 (by decide) ?_
        exact ih (a + 1) (by omega) hQ
theorem l2_X3_takeWord {p : Program} {e : Env} {s : State} {m : MethodId} {args : Array Value} {below : List Frame} {meth : Method} {c : Code} (C : CX p s m args c cX3_takeWord 2 "CostsAge$Reader" D cy ad G (wA ad G) (Rm d) d 0 0) (hr : meth.sig.returnType = none) (hlk : meth.locks = false) (hG : 30 ≤ G) (hd : 5 ≤ d) (M : wS) {q a : Nat} {f : Nat → Int32} (hf : M.1 12 0 = f) (hq : M.1 11 0 3 = nI q) (ha : M.1 11 0 2 = nI a) (hqa : q ≤ a) (ha1 : a ≤ 160) (Qf : wS → Prop) (hQ : Qf (kWord M f q a)) : V p l e (Rm d) s m args below meth c 2 D cy ad G (wA ad G) 0 0 (MQ below (wQ D cy ad G (rV Qf)) args s 0 0 (wA ad G)) 39 [(0, .ref (ad 11 0))] [] M := by
  refine V_aload_n (pc := 39) C 0 dX3_takeWord_39 rfl rfl ?_
  refine V_ldcS (i := 1) (pc := 40) C rfl dX3_takeWord_40 ?_
  refine call_X3_108 (pc := 42) C (c_X3_stands (d := d - 1) hG (by omega) M hf (i := 1) (by decide) hq ha hqa ha1) (by omega) (wg hG (by decide) (by decide)) (Nat.le_of_ble_eq_true rfl) dX3_takeWord_42 (fun x_42 M_42 h_42 => ?_)
  obtain ⟨e_42, rfl⟩ := h_42
  have e_42 := e_42.symm
  subst e_42
  refine V_if_eq (tgt := 52) (pc := 45) C dX3_takeWord_45 (by decide) (fun h_45 => ?_) (fun h_45 => ?_)
  · have h_45 := bJ_0.mp h_45
    refine V_aload_n (pc := 52) C 0 dX3_takeWord_52 rfl rfl ?_
    refine V_ldcS (i := 2) (pc := 53) C rfl dX3_takeWord_53 ?_
    refine call_X3_108 (pc := 55) C (c_X3_stands (d := d - 1) hG (by omega) M hf (i := 2) (by decide) hq ha hqa ha1) (by omega) (wg hG (by decide) (by decide)) (Nat.le_of_ble_eq_true rfl) dX3_takeWord_55 (fun x_55 M_55 h_55 => ?_)
    obtain ⟨e_55, rfl⟩ := h_55
    have e_55 := e_55.symm
    subst e_55
    refine V_if_eq (tgt := 65) (pc := 58) C dX3_takeWord_58 (by decide) (fun h_58 => ?_) (fun h_58 => ?_)
    · have h_58 := bJ_0.mp h_58
      refine V_aload_n (pc := 65) C 0 dX3_takeWord_65 rfl rfl ?_
      refine V_ldcS (i := 3) (pc := 66) C rfl dX3_takeWord_66 ?_
      refine call_X3_108 (pc := 68) C (c_X3_stands (d := d - 1) hG (by omega) M hf (i := 3) (by decide) hq ha hqa ha1) (by omega) (wg hG (by decide) (by decide)) (Nat.le_of_ble_eq_true rfl) dX3_takeWord_68 (fun x_68 M_68 h_68 => ?_)
      obtain ⟨e_68, rfl⟩ := h_68
      have e_68 := e_68.symm
      subst e_68
      refine V_if_eq (tgt := 78) (pc := 71) C dX3_takeWord_71 (by decide) (fun h_71 => ?_) (fun h_71 => ?_)
      · have h_71 := bJ_0.mp h_71
        refine V_aload_n (pc := 78) C 0 dX3_takeWord_78 rfl rfl ?_
        refine V_ldcS (i := 4) (pc := 79) C rfl dX3_takeWord_79 ?_
        refine call_X3_108 (pc := 81) C (c_X3_stands (d := d - 1) hG (by omega) M hf (i := 4) (by decide) hq ha hqa ha1) (by omega) (wg hG (by decide) (by decide)) (Nat.le_of_ble_eq_true rfl) dX3_takeWord_81 (fun x_81 M_81 h_81 => ?_)
        obtain ⟨e_81, rfl⟩ := h_81
        have e_81 := e_81.symm
        subst e_81
        refine V_if_eq (tgt := 91) (pc := 84) C dX3_takeWord_84 (by decide) (fun h_84 => ?_) (fun h_84 => ?_)
        · have h_84 := bJ_0.mp h_84
          refine V_aload_n (pc := 91) C 0 dX3_takeWord_91 rfl rfl ?_
          refine V_ldcS (i := 5) (pc := 92) C rfl dX3_takeWord_92 ?_
          refine call_X3_108 (pc := 94) C (c_X3_stands (d := d - 1) hG (by omega) M hf (i := 5) (by decide) hq ha hqa ha1) (by omega) (wg hG (by decide) (by decide)) (Nat.le_of_ble_eq_true rfl) dX3_takeWord_94 (fun x_94 M_94 h_94 => ?_)
          obtain ⟨e_94, rfl⟩ := h_94
          have e_94 := e_94.symm
          subst e_94
          refine V_if_eq (tgt := 104) (pc := 97) C dX3_takeWord_97 (by decide) (fun h_97 => ?_) (fun h_97 => ?_)
          · have h_97 := bJ_0.mp h_97
            refine V_aload_n (pc := 104) C 0 dX3_takeWord_104 rfl rfl ?_
            refine V_ldcS (i := 6) (pc := 105) C rfl dX3_takeWord_105 ?_
            refine call_X3_108 (pc := 107) C (c_X3_stands (d := d - 1) hG (by omega) M hf (i := 6) (by decide) hq ha hqa ha1) (by omega) (wg hG (by decide) (by decide)) (Nat.le_of_ble_eq_true rfl) dX3_takeWord_107 (fun x_107 M_107 h_107 => ?_)
            obtain ⟨e_107, rfl⟩ := h_107
            have e_107 := e_107.symm
            subst e_107
            refine V_if_eq (tgt := 117) (pc := 110) C dX3_takeWord_110 (by decide) (fun h_110 => ?_) (fun h_110 => ?_)
            · have h_110 := bJ_0.mp h_110
              refine V_iconst (v := -1) (pc := 117) C dX3_takeWord_117 (by decide) ?_
              refine Vs_istore_n (lv' := [(0, _), (1, _)]) (pc := 118) C dX3_takeWord_118 rfl (by decide) rfl rfl ?_
              refine V_iload_n (pc := 119) C 1 dX3_takeWord_119 rfl rfl ?_
              refine V_iconst (v := -1) (pc := 120) C dX3_takeWord_120 (by decide) ?_
              refine V_icmp_eq (tgt := 137) (pc := 121) C dX3_takeWord_121 (by decide) (fun h_121 => ?_) (fun h_121 => ?_)
              · refine V_aload_n (pc := 137) C 0 dX3_takeWord_137 rfl rfl ?_
                refine V_aload_n (pc := 138) C 0 dX3_takeWord_138 rfl rfl ?_
                refine V_ldcS (i := 7) (pc := 139) C rfl dX3_takeWord_139 ?_
                refine call_X3_108 (pc := 141) C (c_X3_stands (d := d - 1) hG (by omega) M hf (i := 7) (by decide) hq ha hqa ha1) (by omega) (wg hG (by decide) (by decide)) (Nat.le_of_ble_eq_true rfl) dX3_takeWord_141 (fun x_141 M_141 h_141 => ?_)
                obtain ⟨e_141, rfl⟩ := h_141
                have e_141 := e_141.symm
                subst e_141
                refine V_if_eq (tgt := 151) (pc := 144) C dX3_takeWord_144 (by decide) (fun h_144 => ?_) (fun h_144 => ?_)
                · have h_144 := bJ_0.mp h_144
                  refine V_aload_n (pc := 151) C 0 dX3_takeWord_151 rfl rfl ?_
                  refine V_ldcS (i := 8) (pc := 152) C rfl dX3_takeWord_152 ?_
                  refine call_X3_108 (pc := 154) C (c_X3_stands (d := d - 1) hG (by omega) M hf (i := 8) (by decide) hq ha hqa ha1) (by omega) (wg hG (by decide) (by decide)) (Nat.le_of_ble_eq_true rfl) dX3_takeWord_154 (fun x_154 M_154 h_154 => ?_)
                  obtain ⟨e_154, rfl⟩ := h_154
                  have e_154 := e_154.symm
                  subst e_154
                  refine V_if_eq (tgt := 164) (pc := 157) C dX3_takeWord_157 (by decide) (fun h_157 => ?_) (fun h_157 => ?_)
                  · have h_157 := bJ_0.mp h_157
                    refine V_aload_n (pc := 164) C 0 dX3_takeWord_164 rfl rfl ?_
                    refine V_ldcS (i := 9) (pc := 165) C rfl dX3_takeWord_165 ?_
                    refine call_X3_108 (pc := 167) C (c_X3_stands (d := d - 1) hG (by omega) M hf (i := 9) (by decide) hq ha hqa ha1) (by omega) (wg hG (by decide) (by decide)) (Nat.le_of_ble_eq_true rfl) dX3_takeWord_167 (fun x_167 M_167 h_167 => ?_)
                    obtain ⟨e_167, rfl⟩ := h_167
                    have e_167 := e_167.symm
                    subst e_167
                    refine V_if_eq (tgt := 177) (pc := 170) C dX3_takeWord_170 (by decide) (fun h_170 => ?_) (fun h_170 => ?_)
                    · have h_170 := bJ_0.mp h_170
                      refine V_aload_n (pc := 177) C 0 dX3_takeWord_177 rfl rfl ?_
                      refine V_ldcS (i := 10) (pc := 178) C rfl dX3_takeWord_178 ?_
                      refine call_X3_108 (pc := 180) C (c_X3_stands (d := d - 1) hG (by omega) M hf (i := 10) (by decide) hq ha hqa ha1) (by omega) (wg hG (by decide) (by decide)) (Nat.le_of_ble_eq_true rfl) dX3_takeWord_180 (fun x_180 M_180 h_180 => ?_)
                      obtain ⟨e_180, rfl⟩ := h_180
                      have e_180 := e_180.symm
                      subst e_180
                      refine V_if_eq (tgt := 191) (pc := 183) C dX3_takeWord_183 (by decide) (fun h_183 => ?_) (fun h_183 => ?_)
                      · have h_183 := bJ_0.mp h_183
                        refine V_aload_n (pc := 191) C 0 dX3_takeWord_191 rfl rfl ?_
                        refine V_ldcS (i := 11) (pc := 192) C rfl dX3_takeWord_192 ?_
                        refine call_X3_108 (pc := 194) C (c_X3_stands (d := d - 1) hG (by omega) M hf (i := 11) (by decide) hq ha hqa ha1) (by omega) (wg hG (by decide) (by decide)) (Nat.le_of_ble_eq_true rfl) dX3_takeWord_194 (fun x_194 M_194 h_194 => ?_)
                        obtain ⟨e_194, rfl⟩ := h_194
                        have e_194 := e_194.symm
                        subst e_194
                        refine V_if_eq (tgt := 205) (pc := 197) C dX3_takeWord_197 (by decide) (fun h_197 => ?_) (fun h_197 => ?_)
                        · have h_197 := bJ_0.mp h_197
                          refine V_aload_n (pc := 205) C 0 dX3_takeWord_205 rfl rfl ?_
                          refine V_ldcS (i := 12) (pc := 206) C rfl dX3_takeWord_206 ?_
                          refine call_X3_108 (pc := 208) C (c_X3_stands (d := d - 1) hG (by omega) M hf (i := 12) (by decide) hq ha hqa ha1) (by omega) (wg hG (by decide) (by decide)) (Nat.le_of_ble_eq_true rfl) dX3_takeWord_208 (fun x_208 M_208 h_208 => ?_)
                          obtain ⟨e_208, rfl⟩ := h_208
                          have e_208 := e_208.symm
                          subst e_208
                          refine V_if_eq (tgt := 219) (pc := 211) C dX3_takeWord_211 (by decide) (fun h_211 => ?_) (fun h_211 => ?_)
                          · have h_211 := bJ_0.mp h_211
                            refine V_iconst (v := -1) (pc := 219) C dX3_takeWord_219 (by decide) ?_
                            refine put_X3_49 (pc := 220) C (wg hG (by decide) (by decide)) dX3_takeWord_220 ?_
                            refine V_vret (pc := 223) C hr hlk dX3_takeWord_223 ⟨rfl, ?_⟩
                            have hn : nmOf f q a = -1 := by rw [nmOf, if_neg h_45, if_neg h_58, if_neg h_71, if_neg h_84, if_neg h_97, if_neg h_110]
                            have hk : kwOf f q a = -1 := by rw [kwOf, if_neg h_144, if_neg h_157, if_neg h_170, if_neg h_183, if_neg h_197, if_neg h_211]
                            rw [kWord, if_pos hn, hk] at hQ
                            exact hQ
                          · have h_211 := bJ_1.mp h_211
                            refine V_bipush (v := 8) (pc := 214) C dX3_takeWord_214 (by decide) ?_
                            refine V_goto (tgt := 220) (pc := 216) C dX3_takeWord_216 (by decide) ?_
                            refine put_X3_49 (pc := 220) C (wg hG (by decide) (by decide)) dX3_takeWord_220 ?_
                            refine V_vret (pc := 223) C hr hlk dX3_takeWord_223 ⟨rfl, ?_⟩
                            have hn : nmOf f q a = -1 := by rw [nmOf, if_neg h_45, if_neg h_58, if_neg h_71, if_neg h_84, if_neg h_97, if_neg h_110]
                            have hk : kwOf f q a = 8 := by rw [kwOf, if_neg h_144, if_neg h_157, if_neg h_170, if_neg h_183, if_neg h_197, if_pos h_211]
                            rw [kWord, if_pos hn, hk] at hQ
                            exact hQ
                        · have h_197 := bJ_1.mp h_197
                          refine V_bipush (v := 7) (pc := 200) C dX3_takeWord_200 (by decide) ?_
                          refine V_goto (tgt := 220) (pc := 202) C dX3_takeWord_202 (by decide) ?_
                          refine put_X3_49 (pc := 220) C (wg hG (by decide) (by decide)) dX3_takeWord_220 ?_
                          refine V_vret (pc := 223) C hr hlk dX3_takeWord_223 ⟨rfl, ?_⟩
                          have hn : nmOf f q a = -1 := by rw [nmOf, if_neg h_45, if_neg h_58, if_neg h_71, if_neg h_84, if_neg h_97, if_neg h_110]
                          have hk : kwOf f q a = 7 := by rw [kwOf, if_neg h_144, if_neg h_157, if_neg h_170, if_neg h_183, if_pos h_197]
                          rw [kWord, if_pos hn, hk] at hQ
                          exact hQ
                      · have h_183 := bJ_1.mp h_183
                        refine V_bipush (v := 6) (pc := 186) C dX3_takeWord_186 (by decide) ?_
                        refine V_goto (tgt := 220) (pc := 188) C dX3_takeWord_188 (by decide) ?_
                        refine put_X3_49 (pc := 220) C (wg hG (by decide) (by decide)) dX3_takeWord_220 ?_
                        refine V_vret (pc := 223) C hr hlk dX3_takeWord_223 ⟨rfl, ?_⟩
                        have hn : nmOf f q a = -1 := by rw [nmOf, if_neg h_45, if_neg h_58, if_neg h_71, if_neg h_84, if_neg h_97, if_neg h_110]
                        have hk : kwOf f q a = 6 := by rw [kwOf, if_neg h_144, if_neg h_157, if_neg h_170, if_pos h_183]
                        rw [kWord, if_pos hn, hk] at hQ
                        exact hQ
                    · have h_170 := bJ_1.mp h_170
                      refine V_iconst (v := 5) (pc := 173) C dX3_takeWord_173 (by decide) ?_
                      refine V_goto (tgt := 220) (pc := 174) C dX3_takeWord_174 (by decide) ?_
                      refine put_X3_49 (pc := 220) C (wg hG (by decide) (by decide)) dX3_takeWord_220 ?_
                      refine V_vret (pc := 223) C hr hlk dX3_takeWord_223 ⟨rfl, ?_⟩
                      have hn : nmOf f q a = -1 := by rw [nmOf, if_neg h_45, if_neg h_58, if_neg h_71, if_neg h_84, if_neg h_97, if_neg h_110]
                      have hk : kwOf f q a = 5 := by rw [kwOf, if_neg h_144, if_neg h_157, if_pos h_170]
                      rw [kWord, if_pos hn, hk] at hQ
                      exact hQ
                  · have h_157 := bJ_1.mp h_157
                    refine V_iconst (v := 4) (pc := 160) C dX3_takeWord_160 (by decide) ?_
                    refine V_goto (tgt := 220) (pc := 161) C dX3_takeWord_161 (by decide) ?_
                    refine put_X3_49 (pc := 220) C (wg hG (by decide) (by decide)) dX3_takeWord_220 ?_
                    refine V_vret (pc := 223) C hr hlk dX3_takeWord_223 ⟨rfl, ?_⟩
                    have hn : nmOf f q a = -1 := by rw [nmOf, if_neg h_45, if_neg h_58, if_neg h_71, if_neg h_84, if_neg h_97, if_neg h_110]
                    have hk : kwOf f q a = 4 := by rw [kwOf, if_neg h_144, if_pos h_157]
                    rw [kWord, if_pos hn, hk] at hQ
                    exact hQ
                · have h_144 := bJ_1.mp h_144
                  refine V_iconst (v := 3) (pc := 147) C dX3_takeWord_147 (by decide) ?_
                  refine V_goto (tgt := 220) (pc := 148) C dX3_takeWord_148 (by decide) ?_
                  refine put_X3_49 (pc := 220) C (wg hG (by decide) (by decide)) dX3_takeWord_220 ?_
                  refine V_vret (pc := 223) C hr hlk dX3_takeWord_223 ⟨rfl, ?_⟩
                  have hn : nmOf f q a = -1 := by rw [nmOf, if_neg h_45, if_neg h_58, if_neg h_71, if_neg h_84, if_neg h_97, if_neg h_110]
                  have hk : kwOf f q a = 3 := by rw [kwOf, if_pos h_144]
                  rw [kWord, if_pos hn, hk] at hQ
                  exact hQ
              · exact absurd rfl h_121
            · have h_110 := bJ_1.mp h_110
              refine V_iconst (v := 5) (pc := 113) C dX3_takeWord_113 (by decide) ?_
              refine V_goto (tgt := 118) (pc := 114) C dX3_takeWord_114 (by decide) ?_
              refine Vs_istore_n (lv' := [(0, _), (1, _)]) (pc := 118) C dX3_takeWord_118 rfl (by decide) rfl rfl ?_
              refine V_iload_n (pc := 119) C 1 dX3_takeWord_119 rfl rfl ?_
              refine V_iconst (v := -1) (pc := 120) C dX3_takeWord_120 (by decide) ?_
              refine V_icmp_eq (tgt := 137) (pc := 121) C dX3_takeWord_121 (by decide) (fun h_121 => ?_) (fun h_121 => ?_)
              · exact absurd h_121 (by decide)
              · refine V_aload_n (pc := 124) C 0 dX3_takeWord_124 rfl rfl ?_
                refine V_iconst (v := 2) (pc := 125) C dX3_takeWord_125 (by decide) ?_
                refine put_X3_49 (pc := 126) C (wg hG (by decide) (by decide)) dX3_takeWord_126 ?_
                refine V_aload_n (pc := 129) C 0 dX3_takeWord_129 rfl rfl ?_
                refine V_iconst (v := -1) (pc := 130) C dX3_takeWord_130 (by decide) ?_
                refine V_iload_n (pc := 131) C 1 dX3_takeWord_131 rfl rfl ?_
                refine V_isub (pc := 132) C dX3_takeWord_132 ?_
                refine put_X3_85 (pc := 133) C (wg hG (by decide) (by decide)) dX3_takeWord_133 ?_
                refine V_vret (pc := 136) C hr hlk dX3_takeWord_136 ⟨rfl, ?_⟩
                have hn : nmOf f q a = 5 := by rw [nmOf, if_neg h_45, if_neg h_58, if_neg h_71, if_neg h_84, if_neg h_97, if_pos h_110]
                rw [kWord, hn, if_neg (by decide)] at hQ
                exact hQ
          · have h_97 := bJ_1.mp h_97
            refine V_iconst (v := 4) (pc := 100) C dX3_takeWord_100 (by decide) ?_
            refine V_goto (tgt := 118) (pc := 101) C dX3_takeWord_101 (by decide) ?_
            refine Vs_istore_n (lv' := [(0, _), (1, _)]) (pc := 118) C dX3_takeWord_118 rfl (by decide) rfl rfl ?_
            refine V_iload_n (pc := 119) C 1 dX3_takeWord_119 rfl rfl ?_
            refine V_iconst (v := -1) (pc := 120) C dX3_takeWord_120 (by decide) ?_
            refine V_icmp_eq (tgt := 137) (pc := 121) C dX3_takeWord_121 (by decide) (fun h_121 => ?_) (fun h_121 => ?_)
            · exact absurd h_121 (by decide)
            · refine V_aload_n (pc := 124) C 0 dX3_takeWord_124 rfl rfl ?_
              refine V_iconst (v := 2) (pc := 125) C dX3_takeWord_125 (by decide) ?_
              refine put_X3_49 (pc := 126) C (wg hG (by decide) (by decide)) dX3_takeWord_126 ?_
              refine V_aload_n (pc := 129) C 0 dX3_takeWord_129 rfl rfl ?_
              refine V_iconst (v := -1) (pc := 130) C dX3_takeWord_130 (by decide) ?_
              refine V_iload_n (pc := 131) C 1 dX3_takeWord_131 rfl rfl ?_
              refine V_isub (pc := 132) C dX3_takeWord_132 ?_
              refine put_X3_85 (pc := 133) C (wg hG (by decide) (by decide)) dX3_takeWord_133 ?_
              refine V_vret (pc := 136) C hr hlk dX3_takeWord_136 ⟨rfl, ?_⟩
              have hn : nmOf f q a = 4 := by rw [nmOf, if_neg h_45, if_neg h_58, if_neg h_71, if_neg h_84, if_pos h_97]
              rw [kWord, hn, if_neg (by decide)] at hQ
              exact hQ
        · have h_84 := bJ_1.mp h_84
          refine V_iconst (v := 3) (pc := 87) C dX3_takeWord_87 (by decide) ?_
          refine V_goto (tgt := 118) (pc := 88) C dX3_takeWord_88 (by decide) ?_
          refine Vs_istore_n (lv' := [(0, _), (1, _)]) (pc := 118) C dX3_takeWord_118 rfl (by decide) rfl rfl ?_
          refine V_iload_n (pc := 119) C 1 dX3_takeWord_119 rfl rfl ?_
          refine V_iconst (v := -1) (pc := 120) C dX3_takeWord_120 (by decide) ?_
          refine V_icmp_eq (tgt := 137) (pc := 121) C dX3_takeWord_121 (by decide) (fun h_121 => ?_) (fun h_121 => ?_)
          · exact absurd h_121 (by decide)
          · refine V_aload_n (pc := 124) C 0 dX3_takeWord_124 rfl rfl ?_
            refine V_iconst (v := 2) (pc := 125) C dX3_takeWord_125 (by decide) ?_
            refine put_X3_49 (pc := 126) C (wg hG (by decide) (by decide)) dX3_takeWord_126 ?_
            refine V_aload_n (pc := 129) C 0 dX3_takeWord_129 rfl rfl ?_
            refine V_iconst (v := -1) (pc := 130) C dX3_takeWord_130 (by decide) ?_
            refine V_iload_n (pc := 131) C 1 dX3_takeWord_131 rfl rfl ?_
            refine V_isub (pc := 132) C dX3_takeWord_132 ?_
            refine put_X3_85 (pc := 133) C (wg hG (by decide) (by decide)) dX3_takeWord_133 ?_
            refine V_vret (pc := 136) C hr hlk dX3_takeWord_136 ⟨rfl, ?_⟩
            have hn : nmOf f q a = 3 := by rw [nmOf, if_neg h_45, if_neg h_58, if_neg h_71, if_pos h_84]
            rw [kWord, hn, if_neg (by decide)] at hQ
            exact hQ
      · have h_71 := bJ_1.mp h_71
        refine V_iconst (v := 2) (pc := 74) C dX3_takeWord_74 (by decide) ?_
        refine V_goto (tgt := 118) (pc := 75) C dX3_takeWord_75 (by decide) ?_
        refine Vs_istore_n (lv' := [(0, _), (1, _)]) (pc := 118) C dX3_takeWord_118 rfl (by decide) rfl rfl ?_
        refine V_iload_n (pc := 119) C 1 dX3_takeWord_119 rfl rfl ?_
        refine V_iconst (v := -1) (pc := 120) C dX3_takeWord_120 (by decide) ?_
        refine V_icmp_eq (tgt := 137) (pc := 121) C dX3_takeWord_121 (by decide) (fun h_121 => ?_) (fun h_121 => ?_)
        · exact absurd h_121 (by decide)
        · refine V_aload_n (pc := 124) C 0 dX3_takeWord_124 rfl rfl ?_
          refine V_iconst (v := 2) (pc := 125) C dX3_takeWord_125 (by decide) ?_
          refine put_X3_49 (pc := 126) C (wg hG (by decide) (by decide)) dX3_takeWord_126 ?_
          refine V_aload_n (pc := 129) C 0 dX3_takeWord_129 rfl rfl ?_
          refine V_iconst (v := -1) (pc := 130) C dX3_takeWord_130 (by decide) ?_
          refine V_iload_n (pc := 131) C 1 dX3_takeWord_131 rfl rfl ?_
          refine V_isub (pc := 132) C dX3_takeWord_132 ?_
          refine put_X3_85 (pc := 133) C (wg hG (by decide) (by decide)) dX3_takeWord_133 ?_
          refine V_vret (pc := 136) C hr hlk dX3_takeWord_136 ⟨rfl, ?_⟩
          have hn : nmOf f q a = 2 := by rw [nmOf, if_neg h_45, if_neg h_58, if_pos h_71]
          rw [kWord, hn, if_neg (by decide)] at hQ
          exact hQ
    · have h_58 := bJ_1.mp h_58
      refine V_iconst (v := 1) (pc := 61) C dX3_takeWord_61 (by decide) ?_
      refine V_goto (tgt := 118) (pc := 62) C dX3_takeWord_62 (by decide) ?_
      refine Vs_istore_n (lv' := [(0, _), (1, _)]) (pc := 118) C dX3_takeWord_118 rfl (by decide) rfl rfl ?_
      refine V_iload_n (pc := 119) C 1 dX3_takeWord_119 rfl rfl ?_
      refine V_iconst (v := -1) (pc := 120) C dX3_takeWord_120 (by decide) ?_
      refine V_icmp_eq (tgt := 137) (pc := 121) C dX3_takeWord_121 (by decide) (fun h_121 => ?_) (fun h_121 => ?_)
      · exact absurd h_121 (by decide)
      · refine V_aload_n (pc := 124) C 0 dX3_takeWord_124 rfl rfl ?_
        refine V_iconst (v := 2) (pc := 125) C dX3_takeWord_125 (by decide) ?_
        refine put_X3_49 (pc := 126) C (wg hG (by decide) (by decide)) dX3_takeWord_126 ?_
        refine V_aload_n (pc := 129) C 0 dX3_takeWord_129 rfl rfl ?_
        refine V_iconst (v := -1) (pc := 130) C dX3_takeWord_130 (by decide) ?_
        refine V_iload_n (pc := 131) C 1 dX3_takeWord_131 rfl rfl ?_
        refine V_isub (pc := 132) C dX3_takeWord_132 ?_
        refine put_X3_85 (pc := 133) C (wg hG (by decide) (by decide)) dX3_takeWord_133 ?_
        refine V_vret (pc := 136) C hr hlk dX3_takeWord_136 ⟨rfl, ?_⟩
        have hn : nmOf f q a = 1 := by rw [nmOf, if_neg h_45, if_pos h_58]
        rw [kWord, hn, if_neg (by decide)] at hQ
        exact hQ
  · have h_45 := bJ_1.mp h_45
    refine V_iconst (v := 0) (pc := 48) C dX3_takeWord_48 (by decide) ?_
    refine V_goto (tgt := 118) (pc := 49) C dX3_takeWord_49 (by decide) ?_
    refine Vs_istore_n (lv' := [(0, _), (1, _)]) (pc := 118) C dX3_takeWord_118 rfl (by decide) rfl rfl ?_
    refine V_iload_n (pc := 119) C 1 dX3_takeWord_119 rfl rfl ?_
    refine V_iconst (v := -1) (pc := 120) C dX3_takeWord_120 (by decide) ?_
    refine V_icmp_eq (tgt := 137) (pc := 121) C dX3_takeWord_121 (by decide) (fun h_121 => ?_) (fun h_121 => ?_)
    · exact absurd h_121 (by decide)
    · refine V_aload_n (pc := 124) C 0 dX3_takeWord_124 rfl rfl ?_
      refine V_iconst (v := 2) (pc := 125) C dX3_takeWord_125 (by decide) ?_
      refine put_X3_49 (pc := 126) C (wg hG (by decide) (by decide)) dX3_takeWord_126 ?_
      refine V_aload_n (pc := 129) C 0 dX3_takeWord_129 rfl rfl ?_
      refine V_iconst (v := -1) (pc := 130) C dX3_takeWord_130 (by decide) ?_
      refine V_iload_n (pc := 131) C 1 dX3_takeWord_131 rfl rfl ?_
      refine V_isub (pc := 132) C dX3_takeWord_132 ?_
      refine put_X3_85 (pc := 133) C (wg hG (by decide) (by decide)) dX3_takeWord_133 ?_
      refine V_vret (pc := 136) C hr hlk dX3_takeWord_136 ⟨rfl, ?_⟩
      have hn : nmOf f q a = 0 := by rw [nmOf, if_pos h_45]
      rw [kWord, hn, if_neg (by decide)] at hQ
      exact hQ
theorem c_X3_takeWord (hG : 30 ≤ G) (hd : 5 ≤ d) (M : wS) {z q : Nat} {f : Nat → Int32} (hf : M.1 12 0 = f) (hz : M.1 11 0 1 = nI z) (hz1 : z ≤ 160) (hq : M.1 11 0 3 = nI q) (ha : M.1 11 0 2 = nI q) (hqz : q ≤ z) : Ctr l D cy ad G d yX3_takeWord cX3_takeWord 2 none [.ref (ad 11 0)] M (rV fun M' => M' = kWord (mset M 11 0 2 (nI (lxWd f (z - q) q))) f q (lxWd f (z - q) q)) := by
  have hr1 := lxWd_r f (z - q) q
  have hM := mset_id M ha
  refine Ctr.of (lv0 := [(0, _)]) (by decide) (Nat.le_of_ble_eq_true rfl) rfl ?_
  intro p e s m args below meth c C hr hlk _
  have C : CX p s m args c cX3_takeWord 2 "CostsAge$Reader" D cy ad G (wA ad G) (Rm d) d 0 0 := C
  refine V_mem hM ?_
  refine lp_X3_takeWord C hr hlk hG (by omega) M hz hz1 _ (z - q) q (by omega) ?_
  rw [hf]
  refine l2_X3_takeWord C hr hlk hG hd _ (q := q) (a := lxWd f (z - q) q) (f := f) ?_ ?_ ?_ hr1.1 (by omega) _ rfl
  · funext j
    rw [mset_at, if_neg (by omega), hf]
  · rw [mset_at, if_neg (by omega)]
    exact hq
  · rw [mset_at, if_pos ⟨rfl, rfl, rfl⟩]
/-- the reader stands so -/
def rAt (M : wS) (q : Nat × Nat × Int32 × Int32) : Prop := M.1 11 0 2 = nI q.1 ∧ M.1 11 0 3 = nI q.2.1 ∧ M.1 11 0 4 = q.2.2.1 ∧ (q.2.2.1 = 1 ∨ q.2.2.1 = 2 → M.1 11 0 5 = q.2.2.2)
theorem m1_n : ¬ ((-1 : Int32) = 1 ∨ (-1 : Int32) = 2) := by decide
theorem z0_n : ¬ ((0 : Int32) = 1 ∨ (0 : Int32) = 2) := by decide
theorem kwOf_n (f : Nat → Int32) (q a : Nat) : ¬ (kwOf f q a = 1 ∨ kwOf f q a = 2) := by
  unfold kwOf
  repeat' split
  all_goals decide
theorem kWord_at {M : wS} {f : Nat → Int32} {q a : Nat} (hq : M.1 11 0 3 = nI q) (ha : M.1 11 0 2 = nI a) : rAt (kWord M f q a) (lxW f q a) ∧ rLx M (kWord M f q a) := by
  unfold kWord lxW
  by_cases h : nmOf f q a = -1
  · rw [if_pos h, if_pos h]
    exact ⟨⟨by rw [mset_at, if_neg (by omega)]; exact ha, by rw [mset_at, if_neg (by omega)]; exact hq, by rw [mset_at, if_pos ⟨rfl, rfl, rfl⟩], fun e => absurd e (kwOf_n f q a)⟩, rLx.set _ (by omega)⟩
  · rw [if_neg h, if_neg h]
    refine ⟨⟨?_, ?_, ?_, fun _ => ?_⟩, (rLx.set _ (by omega)).tr (rLx.set _ (by omega))⟩
    · rw [mset_at, if_neg (by omega), mset_at, if_neg (by omega)]; exact ha
    · rw [mset_at, if_neg (by omega), mset_at, if_neg (by omega)]; exact hq
    · rw [mset_at, if_neg (by omega), mset_at, if_pos ⟨rfl, rfl, rfl⟩]
    · rw [mset_at, if_pos ⟨rfl, rfl, rfl⟩]
theorem kNumL_at : ∀ (n a : Nat) (M : wS) (f : Nat → Int32) (v : Int32), M.1 12 0 = f → M.1 11 0 2 = nI a → M.1 11 0 5 = v → (kNumL n a M).1 11 0 2 = nI (lxDg f n a) ∧ (kNumL n a M).1 11 0 5 = lxNv f n a v ∧ rLx M (kNumL n a M) ∧ (kNumL n a M).1 11 0 3 = M.1 11 0 3 := by
  intro n
  induction n with
  | zero => intro a M f v hf ha hv; exact ⟨ha, hv, rLx.rf, rfl⟩
  | succ n ih =>
    intro a M f v hf ha hv
    unfold kNumL lxDg lxNv
    rw [hf]
    by_cases h : 48 ≤ f a ∧ f a ≤ 57
    · rw [if_pos h, if_pos h, if_pos h]
      have h2 := ih (a + 1) (mset (mset M 11 0 5 (10 * M.1 11 0 5 + f a - 48)) 11 0 2 (nI (a + 1))) f (10 * v + f a - 48) (by funext j; rw [mset_at, if_neg (by omega), mset_at, if_neg (by omega), hf]) (by rw [mset_at, if_pos ⟨rfl, rfl, rfl⟩]) (by rw [mset_at, if_neg (by omega), mset_at, if_pos ⟨rfl, rfl, rfl⟩, hv])
      refine ⟨h2.1, h2.2.1, ((rLx.set _ (by omega)).tr (rLx.set _ (by omega))).tr h2.2.2.1, h2.2.2.2.trans ?_⟩
      rw [mset_at, if_neg (by omega), mset_at, if_neg (by omega)]
    · rw [if_neg h, if_neg h, if_neg h]
      exact ⟨ha, hv, rLx.rf, rfl⟩
theorem sub_le4 {a q : Nat} (h : q ≤ a) (ha : a ≤ 160) : nI a - nI q ≤ 4 ↔ a - q ≤ 4 := by
  have e2 := nI_add (a - q) q
  rw [Nat.sub_add_cancel h] at e2
  rw [← e2, Int32.add_sub_cancel]
  exact nI_leI (b := 4) (by omega) (by decide)
theorem kNum_at {M : wS} {f : Nat → Int32} {q z : Nat} (hf : M.1 12 0 = f) (hq : M.1 11 0 3 = nI q) (ha : M.1 11 0 2 = nI q) (hz1 : z ≤ 160) (hqz : q ≤ z) : rAt (kNum M q z) (lxD f (z - q) q (lxDg f (z - q) q)) ∧ rLx M (kNum M q z) := by
  obtain ⟨h1, h2, h3, h4⟩ := kNumL_at (z - q) q (mset M 11 0 5 0) f 0 (by funext j; rw [mset_at, if_neg (by omega), hf]) (by rw [mset_at, if_neg (by omega)]; exact ha) (by rw [mset_at, if_pos ⟨rfl, rfl, rfl⟩])
  have h5 : (kNumL (z - q) q (mset M 11 0 5 0)).1 11 0 3 = nI q := by rw [h4, mset_at, if_neg (by omega)]; exact hq
  have hr := lxDg_r f (z - q) q
  have hk : rLx M (kNum M q z) := ((rLx.set _ (by omega)).tr h3).tr (rLx.set _ (by omega))
  unfold kNum kNum1
  rw [h1, h5]
  unfold lxD
  by_cases h : lxDg f (z - q) q - q ≤ 4
  · rw [if_pos h, if_pos ((sub_le4 hr.1 (by omega)).mpr h)]
    refine ⟨⟨?_, ?_, ?_, fun _ => ?_⟩, ?_⟩
    · rw [mset_at, if_neg (by omega)]; exact h1
    · rw [mset_at, if_neg (by omega)]; exact h5
    · rw [mset_at, if_pos ⟨rfl, rfl, rfl⟩]
    · rw [mset_at, if_neg (by omega)]; exact h2
    · exact ((rLx.set _ (by omega)).tr h3).tr (rLx.set _ (by omega))
  · rw [if_neg h, if_neg (fun e => h ((sub_le4 hr.1 (by omega)).mp e))]
    refine ⟨⟨?_, ?_, ?_, fun e => absurd e m1_n⟩, ?_⟩
    · rw [mset_at, if_neg (by omega)]; exact h1
    · rw [mset_at, if_neg (by omega)]; exact h5
    · rw [mset_at, if_pos ⟨rfl, rfl, rfl⟩]
    · exact ((rLx.set _ (by omega)).tr h3).tr (rLx.set _ (by omega))
theorem pSign_n {v : Int32} (h : pSign v = true) : ¬ (v = 1 ∨ v = 2) := by
  rintro (rfl | rfl) <;> exact absurd h (by decide)
theorem lp_X3_advance {p : Program} {e : Env} {s : State} {m : MethodId} {args : Array Value} {below : List Frame} {meth : Method} {c : Code} (C : CX p s m args c cX3_advance 1 "CostsAge$Reader" D cy ad G (wA ad G) (Rm d) d 0 0) (hr : meth.sig.returnType = none) (hlk : meth.locks = false) (hG : 30 ≤ G) (M0 : wS) {z : Nat} (hz : M0.1 11 0 1 = nI z) (hz1 : z ≤ 160) (Qf : wS → Prop) : ∀ (n a : Nat), a + n = z → V p l e (Rm d) s m args below meth c 1 D cy ad G (wA ad G) 0 0 (MQ below (wQ D cy ad G (rV Qf)) args s 0 0 (wA ad G)) 52 [(0, .ref (ad 11 0))] [] (mset M0 11 0 2 (nI (lxSk (M0.1 12 0) n a))) → V p l e (Rm d) s m args below meth c 1 D cy ad G (wA ad G) 0 0 (MQ below (wQ D cy ad G (rV Qf)) args s 0 0 (wA ad G)) 0 [(0, .ref (ad 11 0))] [] (mset M0 11 0 2 (nI a)) := by
  intro n
  induction n with
  | zero =>
    intro a ha hQ
    have g1 : (mset M0 11 0 2 (nI a)).1 11 0 1 = nI z := by rw [mset_at, if_neg (by omega)]; exact hz
    have g2 : (mset M0 11 0 2 (nI a)).1 11 0 2 = nI a := by rw [mset_at, if_pos ⟨rfl, rfl, rfl⟩]
    refine V_aload_n (pc := 0) C 0 dX3_advance_0 rfl rfl ?_
    refine get_X3_19 (pc := 1) C (wg hG (by decide) (by decide)) dX3_advance_1 ?_
    refine V_aload_n (pc := 4) C 0 dX3_advance_4 rfl rfl ?_
    refine get_X3_15 (pc := 5) C (wg hG (by decide) (by decide)) dX3_advance_5 ?_
    refine V_icmp_ge (tgt := 52) (pc := 8) C dX3_advance_8 (by decide) (fun h_8 => ?_) (fun h_8 => ?_)
    · exact hQ
    · rw [g1, g2] at h_8
      exact absurd (nI_le (by omega) (by omega)) h_8
  | succ n ih =>
    intro a ha hQ
    have g1 : (mset M0 11 0 2 (nI a)).1 11 0 1 = nI z := by rw [mset_at, if_neg (by omega)]; exact hz
    have g2 : (mset M0 11 0 2 (nI a)).1 11 0 2 = nI a := by rw [mset_at, if_pos ⟨rfl, rfl, rfl⟩]
    have g3 : (mset M0 11 0 2 (nI a)).1 12 0 a = M0.1 12 0 a := by rw [mset_at, if_neg (by omega)]
    unfold lxSk at hQ
    refine V_aload_n (pc := 0) C 0 dX3_advance_0 rfl rfl ?_
    refine get_X3_19 (pc := 1) C (wg hG (by decide) (by decide)) dX3_advance_1 ?_
    refine V_aload_n (pc := 4) C 0 dX3_advance_4 rfl rfl ?_
    refine get_X3_15 (pc := 5) C (wg hG (by decide) (by decide)) dX3_advance_5 ?_
    refine V_icmp_ge (tgt := 52) (pc := 8) C dX3_advance_8 (by decide) (fun h_8 => ?_) (fun h_8 => ?_)
    · rw [g1, g2] at h_8
      exact absurd h_8 (nI_ge (by omega) (by omega))
    · refine V_aload_n (pc := 11) C 0 dX3_advance_11 rfl rfl ?_
      refine get_X3_9 (pc := 12) C (wg hG (by decide) (by decide)) dX3_advance_12 ?_
      refine V_aload_n (pc := 15) C 0 dX3_advance_15 rfl rfl ?_
      refine get_X3_19 (pc := 16) C (wg hG (by decide) (by decide)) dX3_advance_16 ?_
      refine V_iald (pc := 19) C (a) g2 (by omega) (Nat.le_of_ble_eq_true rfl) (wg hG (by decide) (by decide)) wF_12 dX3_advance_19 ?_
      refine V_bipush (v := 32) (pc := 20) C dX3_advance_20 (by decide) ?_
      refine V_icmp_eq (tgt := 39) (pc := 22) C dX3_advance_22 (by decide) (fun h_22 => ?_) (fun h_22 => ?_)
      · rw [g3] at h_22
        rw [if_pos (Or.inl h_22)] at hQ
        refine V_aload_n (pc := 39) C 0 dX3_advance_39 rfl rfl ?_
        refine V_dup (pc := 40) C dX3_advance_40 rfl ?_
        refine get_X3_19 (pc := 41) C (wg hG (by decide) (by decide)) dX3_advance_41 ?_
        refine V_iconst (v := 1) (pc := 44) C dX3_advance_44 (by decide) ?_
        refine V_iadd (pc := 45) C dX3_advance_45 ?_
        refine put_X3_19 (pc := 46) C (wg hG (by decide) (by decide)) dX3_advance_46 ?_
        rw [g2, mset_mset, nI_1]
        refine V_goto (tgt := 0) (pc := 49) C dX3_advance_49 (by decide) ?_
        exact ih (a + 1) (by omega) hQ
      · rw [g3] at h_22
        refine V_aload_n (pc := 25) C 0 dX3_advance_25 rfl rfl ?_
        refine get_X3_9 (pc := 26) C (wg hG (by decide) (by decide)) dX3_advance_26 ?_
        refine V_aload_n (pc := 29) C 0 dX3_advance_29 rfl rfl ?_
        refine get_X3_19 (pc := 30) C (wg hG (by decide) (by decide)) dX3_advance_30 ?_
        refine V_iald (pc := 33) C (a) g2 (by omega) (Nat.le_of_ble_eq_true rfl) (wg hG (by decide) (by decide)) wF_12 dX3_advance_33 ?_
        refine V_bipush (v := 10) (pc := 34) C dX3_advance_34 (by decide) ?_
        refine V_icmp_ne (tgt := 52) (pc := 36) C dX3_advance_36 (by decide) (fun h_36 => ?_) (fun h_36 => ?_)
        · rw [g3] at h_36
          rw [if_neg (fun e => e.elim h_22 h_36)] at hQ
          exact hQ
        · rw [g3] at h_36
          rw [if_pos (Or.inr h_36)] at hQ
          refine V_aload_n (pc := 39) C 0 dX3_advance_39 rfl rfl ?_
          refine V_dup (pc := 40) C dX3_advance_40 rfl ?_
          refine get_X3_19 (pc := 41) C (wg hG (by decide) (by decide)) dX3_advance_41 ?_
          refine V_iconst (v := 1) (pc := 44) C dX3_advance_44 (by decide) ?_
          refine V_iadd (pc := 45) C dX3_advance_45 ?_
          refine put_X3_19 (pc := 46) C (wg hG (by decide) (by decide)) dX3_advance_46 ?_
          rw [g2, mset_mset, nI_1]
          refine V_goto (tgt := 0) (pc := 49) C dX3_advance_49 (by decide) ?_
          exact ih (a + 1) (by omega) hQ
theorem c_X3_advance (hG : 30 ≤ G) (hd : 6 ≤ d) (M : wS) {z a : Nat} {f : Nat → Int32} (hf : M.1 12 0 = f) (hz : M.1 11 0 1 = nI z) (hz1 : z ≤ 160) (ha : M.1 11 0 2 = nI a) (haz : a ≤ z) : Ctr l D cy ad G d yX3_advance cX3_advance 1 none [.ref (ad 11 0)] M (rV fun M' => rLx M M' ∧ rAt M' (lx f z a)) := by
  have hr1 := lxSk_r f (z - a) a
  have hM := mset_id M ha
  refine Ctr.of (lv0 := [(0, _)]) (by decide) (Nat.le_of_ble_eq_true rfl) rfl ?_
  intro p e s m args below meth c C hr hlk _
  have C : CX p s m args c cX3_advance 1 "CostsAge$Reader" D cy ad G (wA ad G) (Rm d) d 0 0 := C
  refine V_mem hM ?_
  refine lp_X3_advance C hr hlk hG M hz hz1 _ (z - a) a (by omega) ?_
  rw [hf]
  unfold lx
  generalize hqq : lxSk f (z - a) a = q
  rw [hqq] at hr1
  have g1 : ∀ x, (mset (mset M 11 0 2 (nI q)) 11 0 3 x).1 11 0 1 = nI z := by intro x; rw [mset_at, if_neg (by omega), mset_at, if_neg (by omega)]; exact hz
  have g2 : (mset M 11 0 2 (nI q)).1 11 0 2 = nI q := by rw [mset_at, if_pos ⟨rfl, rfl, rfl⟩]
  have g3 : ∀ x, (mset (mset M 11 0 2 (nI q)) 11 0 3 x).1 12 0 = f := by intro x; funext j; rw [mset_at, if_neg (by omega), mset_at, if_neg (by omega), hf]
  have k2 : (mset (mset M 11 0 2 (nI q)) 11 0 3 (nI q)).1 11 0 2 = nI q := by rw [mset_at, if_neg (by omega), g2]
  have k3 : (mset (mset M 11 0 2 (nI q)) 11 0 3 (nI q)).1 11 0 3 = nI q := by rw [mset_at, if_pos ⟨rfl, rfl, rfl⟩]
  have k1 := g1 (nI q)
  have kf := g3 (nI q)
  have kL : rLx M (mset (mset M 11 0 2 (nI q)) 11 0 3 (nI q)) := (rLx.set _ (by omega)).tr (rLx.set _ (by omega))
  refine V_aload_n (pc := 52) C 0 dX3_advance_52 rfl rfl ?_
  refine V_aload_n (pc := 53) C 0 dX3_advance_53 rfl rfl ?_
  refine get_X3_19 (pc := 54) C (wg hG (by decide) (by decide)) dX3_advance_54 ?_
  refine put_X3_88 (pc := 57) C (wg hG (by decide) (by decide)) dX3_advance_57 ?_
  rw [g2]
  generalize mset (mset M 11 0 2 (nI q)) 11 0 3 (nI q) = M1 at k1 k2 k3 kf kL ⊢
  subst kf
  refine V_aload_n (pc := 60) C 0 dX3_advance_60 rfl rfl ?_
  refine get_X3_19 (pc := 61) C (wg hG (by decide) (by decide)) dX3_advance_61 ?_
  refine V_aload_n (pc := 64) C 0 dX3_advance_64 rfl rfl ?_
  refine get_X3_15 (pc := 65) C (wg hG (by decide) (by decide)) dX3_advance_65 ?_
  refine V_icmp_lt (tgt := 79) (pc := 68) C dX3_advance_68 (by decide) (fun h_68 => ?_) (fun h_68 => ?_)
  · rw [k1, k2] at h_68
    have hlt : q < z := (nI_ltI (by omega) (by omega)).mp h_68
    refine V_aload_n (pc := 79) C 0 dX3_advance_79 rfl rfl ?_
    refine get_X3_9 (pc := 80) C (wg hG (by decide) (by decide)) dX3_advance_80 ?_
    refine V_aload_n (pc := 83) C 0 dX3_advance_83 rfl rfl ?_
    refine get_X3_19 (pc := 84) C (wg hG (by decide) (by decide)) dX3_advance_84 ?_
    refine V_iald (pc := 87) C (q) k2 (by omega) (Nat.le_of_ble_eq_true rfl) (wg hG (by decide) (by decide)) wF_12 dX3_advance_87 ?_
    refine call_X3_91 (pc := 88) C (c_X3_isLetter (d := d - 1) _ _) (by omega) (Nat.le_of_ble_eq_true rfl) dX3_advance_88 (fun x_88 M_88 h_88 => ?_)
    obtain ⟨e_88, rfl⟩ := h_88
    have e_88 := e_88.symm
    subst e_88
    refine V_if_eq (tgt := 101) (pc := 91) C dX3_advance_91 (by decide) (fun h_91 => ?_) (fun h_91 => ?_)
    · have h_91 := bJ_0.mp h_91
      refine V_aload_n (pc := 101) C 0 dX3_advance_101 rfl rfl ?_
      refine get_X3_9 (pc := 102) C (wg hG (by decide) (by decide)) dX3_advance_102 ?_
      refine V_aload_n (pc := 105) C 0 dX3_advance_105 rfl rfl ?_
      refine get_X3_19 (pc := 106) C (wg hG (by decide) (by decide)) dX3_advance_106 ?_
      refine V_iald (pc := 109) C (q) k2 (by omega) (Nat.le_of_ble_eq_true rfl) (wg hG (by decide) (by decide)) wF_12 dX3_advance_109 ?_
      refine call_X3_97 (pc := 110) C (c_X3_isDigit (d := d - 1) _ _) (by omega) (Nat.le_of_ble_eq_true rfl) dX3_advance_110 (fun x_110 M_110 h_110 => ?_)
      obtain ⟨e_110, rfl⟩ := h_110
      have e_110 := e_110.symm
      subst e_110
      refine V_if_eq (tgt := 123) (pc := 113) C dX3_advance_113 (by decide) (fun h_113 => ?_) (fun h_113 => ?_)
      · have h_113 := bJ_0.mp h_113
        refine V_aload_n (pc := 123) C 0 dX3_advance_123 rfl rfl ?_
        refine V_aload_n (pc := 124) C 0 dX3_advance_124 rfl rfl ?_
        refine get_X3_9 (pc := 125) C (wg hG (by decide) (by decide)) dX3_advance_125 ?_
        refine V_aload_n (pc := 128) C 0 dX3_advance_128 rfl rfl ?_
        refine get_X3_19 (pc := 129) C (wg hG (by decide) (by decide)) dX3_advance_129 ?_
        refine V_iald (pc := 132) C (q) k2 (by omega) (Nat.le_of_ble_eq_true rfl) (wg hG (by decide) (by decide)) wF_12 dX3_advance_132 ?_
        refine call_X3_103 (pc := 133) C (c_X3_isSign (d := d - 1) _ _) (by omega) (Nat.le_of_ble_eq_true rfl) dX3_advance_133 (fun x_133 M_133 h_133 => ?_)
        obtain ⟨e_133, rfl⟩ := h_133
        have e_133 := e_133.symm
        subst e_133
        refine V_if_eq (tgt := 151) (pc := 136) C dX3_advance_136 (by decide) (fun h_136 => ?_) (fun h_136 => ?_)
        · have h_136 := bJ_0.mp h_136
          refine V_iconst (v := -1) (pc := 151) C dX3_advance_151 (by decide) ?_
          refine put_X3_49 (pc := 152) C (wg hG (by decide) (by decide)) dX3_advance_152 ?_
          refine V_aload_n (pc := 155) C 0 dX3_advance_155 rfl rfl ?_
          refine V_dup (pc := 156) C dX3_advance_156 rfl ?_
          refine get_X3_19 (pc := 157) C (wg hG (by decide) (by decide)) dX3_advance_157 ?_
          refine V_iconst (v := 1) (pc := 160) C dX3_advance_160 (by decide) ?_
          refine V_iadd (pc := 161) C dX3_advance_161 ?_
          refine put_X3_19 (pc := 162) C (wg hG (by decide) (by decide)) dX3_advance_162 ?_
          refine V_vret (pc := 165) C hr hlk dX3_advance_165 ⟨rfl, ?_⟩
          have e1 : lxP (M1.1 12 0) z q = (q + 1, q, -1, 0) := by rw [lxP, if_neg (by omega), if_neg h_91, if_neg h_113, if_neg h_136]
          rw [e1]
          refine ⟨kL.tr ((rLx.set _ (by omega)).tr (rLx.set _ (by omega))), ?_, ?_, ?_, fun e => absurd e m1_n⟩
          · rw [mset_at, if_pos ⟨rfl, rfl, rfl⟩, mset_at, if_neg (by omega), k2, nI_1]
          · rw [mset_at, if_neg (by omega), mset_at, if_neg (by omega)]; exact k3
          · rw [mset_at, if_neg (by omega), mset_at, if_pos ⟨rfl, rfl, rfl⟩]
        · have h_136 := bJ_1.mp h_136
          refine V_aload_n (pc := 139) C 0 dX3_advance_139 rfl rfl ?_
          refine get_X3_9 (pc := 140) C (wg hG (by decide) (by decide)) dX3_advance_140 ?_
          refine V_aload_n (pc := 143) C 0 dX3_advance_143 rfl rfl ?_
          refine get_X3_19 (pc := 144) C (wg hG (by decide) (by decide)) dX3_advance_144 ?_
          refine V_iald (pc := 147) C (q) k2 (by omega) (Nat.le_of_ble_eq_true rfl) (wg hG (by decide) (by decide)) wF_12 dX3_advance_147 ?_
          refine V_goto (tgt := 152) (pc := 148) C dX3_advance_148 (by decide) ?_
          refine put_X3_49 (pc := 152) C (wg hG (by decide) (by decide)) dX3_advance_152 ?_
          refine V_aload_n (pc := 155) C 0 dX3_advance_155 rfl rfl ?_
          refine V_dup (pc := 156) C dX3_advance_156 rfl ?_
          refine get_X3_19 (pc := 157) C (wg hG (by decide) (by decide)) dX3_advance_157 ?_
          refine V_iconst (v := 1) (pc := 160) C dX3_advance_160 (by decide) ?_
          refine V_iadd (pc := 161) C dX3_advance_161 ?_
          refine put_X3_19 (pc := 162) C (wg hG (by decide) (by decide)) dX3_advance_162 ?_
          refine V_vret (pc := 165) C hr hlk dX3_advance_165 ⟨rfl, ?_⟩
          have e1 : lxP (M1.1 12 0) z q = (q + 1, q, M1.1 12 0 q, 0) := by rw [lxP, if_neg (by omega), if_neg h_91, if_neg h_113, if_pos h_136]
          rw [e1]
          refine ⟨kL.tr ((rLx.set _ (by omega)).tr (rLx.set _ (by omega))), ?_, ?_, ?_, fun e => absurd e (pSign_n h_136)⟩
          · rw [mset_at, if_pos ⟨rfl, rfl, rfl⟩, mset_at, if_neg (by omega), k2, nI_1]
          · rw [mset_at, if_neg (by omega), mset_at, if_neg (by omega)]; exact k3
          · rw [mset_at, if_neg (by omega), mset_at, if_pos ⟨rfl, rfl, rfl⟩]
      · have h_113 := bJ_1.mp h_113
        refine V_aload_n (pc := 116) C 0 dX3_advance_116 rfl rfl ?_
        refine call_X3_100 (pc := 117) C (c_X3_takeNumber (d := d - 1) hG (by omega) M1 k1 hz1 k2 (by omega)) (by omega) (wg hG (by decide) (by decide)) (Nat.le_of_ble_eq_true rfl) dX3_advance_117 (fun M_117 h_117 => ?_)
        have e_117 := h_117.symm
        subst e_117
        refine V_goto (tgt := 165) (pc := 120) C dX3_advance_120 (by decide) ?_
        refine V_vret (pc := 165) C hr hlk dX3_advance_165 ⟨rfl, ?_⟩
        have e1 : lxP (M1.1 12 0) z q = lxD (M1.1 12 0) (z - q) q (lxDg (M1.1 12 0) (z - q) q) := by rw [lxP, if_neg (by omega), if_neg h_91, if_pos h_113]
        rw [e1]
        exact ⟨kL.tr (kNum_at rfl k3 k2 hz1 (by omega)).2, (kNum_at rfl k3 k2 hz1 (by omega)).1⟩
    · have h_91 := bJ_1.mp h_91
      refine V_aload_n (pc := 94) C 0 dX3_advance_94 rfl rfl ?_
      refine call_X3_94 (pc := 95) C (c_X3_takeWord (d := d - 1) hG (by omega) M1 rfl k1 hz1 k3 k2 (by omega)) (by omega) (wg hG (by decide) (by decide)) (Nat.le_of_ble_eq_true rfl) dX3_advance_95 (fun M_95 h_95 => ?_)
      have e_95 := h_95.symm
      subst e_95
      refine V_goto (tgt := 165) (pc := 98) C dX3_advance_98 (by decide) ?_
      refine V_vret (pc := 165) C hr hlk dX3_advance_165 ⟨rfl, ?_⟩
      have e1 : lxP (M1.1 12 0) z q = lxW (M1.1 12 0) q (lxWd (M1.1 12 0) (z - q) q) := by rw [lxP, if_neg (by omega), if_pos h_91]
      rw [e1]
      have hw := kWord_at (M := mset M1 11 0 2 (nI (lxWd (M1.1 12 0) (z - q) q))) (f := M1.1 12 0) (q := q) (a := lxWd (M1.1 12 0) (z - q) q) (by rw [mset_at, if_neg (by omega)]; exact k3) (by rw [mset_at, if_pos ⟨rfl, rfl, rfl⟩])
      exact ⟨(kL.tr (rLx.set _ (by omega))).tr hw.2, hw.1⟩
  · rw [k1, k2] at h_68
    have hge : z ≤ q := Nat.le_of_not_lt (fun e => h_68 (nI_lt e (by omega)))
    refine V_aload_n (pc := 71) C 0 dX3_advance_71 rfl rfl ?_
    refine V_iconst (v := 0) (pc := 72) C dX3_advance_72 (by decide) ?_
    refine put_X3_49 (pc := 73) C (wg hG (by decide) (by decide)) dX3_advance_73 ?_
    refine V_goto (tgt := 165) (pc := 76) C dX3_advance_76 (by decide) ?_
    refine V_vret (pc := 165) C hr hlk dX3_advance_165 ⟨rfl, ?_⟩
    have e1 : lxP (M1.1 12 0) z q = (q, q, 0, 0) := by rw [lxP, if_pos hge]
    rw [e1]
    refine ⟨kL.tr (rLx.set _ (by omega)), ?_, ?_, ?_, fun e => absurd e z0_n⟩
    · rw [mset_at, if_neg (by omega)]; exact k2
    · rw [mset_at, if_neg (by omega)]; exact k3
    · rw [mset_at, if_pos ⟨rfl, rfl, rfl⟩]
end S43
