section S63
variable {l : Launch} {D : va_G} {cy : Nat → ClassId} {ad : Nat → Nat → Nat} {G d : Nat}
theorem ix40 (s j : Nat) : (40 : Int32) * nI s + 2 * nI j = nI (40 * s + 2 * j) := by
  rw [show (40 : Int32) = nI 40 from rfl, show (2 : Int32) = nI 2 from rfl, pk_mul, pk_mul, nI_add]
theorem lx_X10_judge {p : Program} {e : Env} {s : State} {m : MethodId} {args : Array Value} {below : List Frame} {meth : Method} {c : Code} (C : CX p s m args c cX10_judge 10 "CostsAgeModel" D cy ad G (wA ad G) (Rm d) d 0 0) (hr : meth.sig.returnType = (some .int)) (hlk : meth.locks = false) (hG : 56 ≤ G) {k sz j : Nat} (hk : k < 4) (h40 : sz ≤ 40) {M : wS} (h54 : M.1 54 0 k = nI sz) (hj : j < 40) (what paid gn nx : Int32) (Qf : Int32 → wS → Prop) (hQ : Qf (if what = 0 then nI j else paid) M) : V p l e (Rm d) s m args below meth c 10 D cy ad G (wA ad G) 0 0 (MQ below (wQ D cy ad G (rI Qf)) args s 0 0 (wA ad G)) 61 [(0, .ref (ad 30 0)), (1, .int (nI k)), (2, .int what), (3, .int gn), (4, .int paid), (5, .int (nI j)), (6, .int nx)] [] M := by
  refine V_iload (pc := 61) C 6 dX10_judge_61 rfl ?_
  refine V_aload_n (pc := 63) C 0 dX10_judge_63 rfl rfl ?_
  refine get_X10_90 (pc := 64) C (wg hG (by decide) (by decide)) dX10_judge_64 ?_
  refine V_iload_n (pc := 67) C 1 dX10_judge_67 rfl rfl ?_
  refine V_iald (pc := 68) C (k) rfl hk (Nat.le_of_ble_eq_true rfl) (wg hG (by decide) (by decide)) wF_54 dX10_judge_68 ?_
  refine V_iconst (v := 2) (pc := 69) C dX10_judge_69 (by decide) ?_
  refine V_idiv (pc := 70) C dX10_judge_70 (by decide) ?_
  refine V_icmp_ge (tgt := 193) (pc := 71) C dX10_judge_71 (by decide) (fun h_71 => ?_) (fun h_71 => ?_)
  · refine V_iload_n (pc := 193) C 2 dX10_judge_193 rfl rfl ?_
    refine V_if_ne (tgt := 202) (pc := 194) C dX10_judge_194 (by decide) (fun h_194 => ?_) (fun h_194 => ?_)
    · refine V_iload (pc := 202) C 4 dX10_judge_202 rfl ?_
      refine V_iret (pc := 204) C hr hlk dX10_judge_204 ⟨_, rfl, ?_⟩
      first | (rw [if_neg h_194] at hQ; exact hQ) | (rw [if_pos h_194] at hQ; exact hQ)
    · refine V_iload (pc := 197) C 5 dX10_judge_197 rfl ?_
      refine V_goto (tgt := 204) (pc := 199) C dX10_judge_199 (by decide) ?_
      refine V_iret (pc := 204) C hr hlk dX10_judge_204 ⟨_, rfl, ?_⟩
      first | (rw [if_neg h_194] at hQ; exact hQ) | (rw [if_pos h_194] at hQ; exact hQ)
  · refine V_iload (pc := 74) C 5 dX10_judge_74 rfl ?_
    refine V_iconst (v := -1) (pc := 76) C dX10_judge_76 (by decide) ?_
    refine V_icmp_ne (tgt := 193) (pc := 77) C dX10_judge_77 (by decide) (fun h_77 => ?_) (fun h_77 => ?_)
    · refine V_iload_n (pc := 193) C 2 dX10_judge_193 rfl rfl ?_
      refine V_if_ne (tgt := 202) (pc := 194) C dX10_judge_194 (by decide) (fun h_194 => ?_) (fun h_194 => ?_)
      · refine V_iload (pc := 202) C 4 dX10_judge_202 rfl ?_
        refine V_iret (pc := 204) C hr hlk dX10_judge_204 ⟨_, rfl, ?_⟩
        first | (rw [if_neg h_194] at hQ; exact hQ) | (rw [if_pos h_194] at hQ; exact hQ)
      · refine V_iload (pc := 197) C 5 dX10_judge_197 rfl ?_
        refine V_goto (tgt := 204) (pc := 199) C dX10_judge_199 (by decide) ?_
        refine V_iret (pc := 204) C hr hlk dX10_judge_204 ⟨_, rfl, ?_⟩
        first | (rw [if_neg h_194] at hQ; exact hQ) | (rw [if_pos h_194] at hQ; exact hQ)
    · exact absurd h_77 (nIm1 (by omega))
theorem lp_X10_judge {p : Program} {e : Env} {s : State} {m : MethodId} {args : Array Value} {below : List Frame} {meth : Method} {c : Code} (C : CX p s m args c cX10_judge 10 "CostsAgeModel" D cy ad G (wA ad G) (Rm d) d 0 0) (hr : meth.sig.returnType = (some .int)) (hlk : meth.locks = false) (hG : 56 ≤ G) (hd : 43 ≤ d) {M0 Ms : wS} {nb nt r e1 e2 e3 k sz : Nat} (hC : rC M0 Ms nb nt r e1 e2 e3) (hk : k < 4) (h40 : sz ≤ 40) (h54 : Ms.1 54 0 k = nI sz) (hit : ∀ j, j < sz → Ms.1 55 0 (40 * k + j) = M0.1 10 k j) (what : Int32) (Qf : Int32 → wS → Prop) : ∀ (n j : Nat) (paid gone : Int32) (M : wS), j + n = sz / 2 → frK 36 Ms M → (∀ M', frK 36 Ms M' → Qf (if what = 0 then (jRun M0 nb nt r e1 e2 (M0.1 10 k) n j paid gone).1 else (jRun M0 nb nt r e1 e2 (M0.1 10 k) n j paid gone).2) M') → V p l e (Rm d) s m args below meth c 10 D cy ad G (wA ad G) 0 0 (MQ below (wQ D cy ad G (rI Qf)) args s 0 0 (wA ad G)) 61 [(0, .ref (ad 30 0)), (1, .int (nI k)), (2, .int what), (3, .int (M0.1 26 0 3 ||| gone)), (4, .int paid), (5, .int (-1)), (6, .int (nI j))] [] M := by
  have hn7 := hC.1.2.1.2
  have hb7 := hC.1.1.2
  intro n
  induction n with
  | zero =>
    intro j paid gone M hj hF hQ
    have h54' : M.1 54 0 k = nI sz := by rw [hF.1 54 0 (by decide)]; exact h54
    have hdv : nI sz / 2 = nI (sz / 2) := pk_div (d := 2) (by omega) (by decide) (by decide)
    refine V_iload (pc := 61) C 6 dX10_judge_61 rfl ?_
    refine V_aload_n (pc := 63) C 0 dX10_judge_63 rfl rfl ?_
    refine get_X10_90 (pc := 64) C (wg hG (by decide) (by decide)) dX10_judge_64 ?_
    refine V_iload_n (pc := 67) C 1 dX10_judge_67 rfl rfl ?_
    refine V_iald (pc := 68) C (k) rfl hk (Nat.le_of_ble_eq_true rfl) (wg hG (by decide) (by decide)) wF_54 dX10_judge_68 ?_
    refine V_iconst (v := 2) (pc := 69) C dX10_judge_69 (by decide) ?_
    refine V_idiv (pc := 70) C dX10_judge_70 (by decide) ?_
    rw [h54', hdv]
    refine V_icmp_ge (tgt := 193) (pc := 71) C dX10_judge_71 (by decide) (fun h_71 => ?_) (fun h_71 => ?_)
    · refine V_iload_n (pc := 193) C 2 dX10_judge_193 rfl rfl ?_
      refine V_if_ne (tgt := 202) (pc := 194) C dX10_judge_194 (by decide) (fun h_194 => ?_) (fun h_194 => ?_)
      · refine V_iload (pc := 202) C 4 dX10_judge_202 rfl ?_
        refine V_iret (pc := 204) C hr hlk dX10_judge_204 ⟨_, rfl, ?_⟩
        have hq := hQ M hF
        rw [if_neg h_194] at hq
        exact hq
      · refine V_iload (pc := 197) C 5 dX10_judge_197 rfl ?_
        refine V_goto (tgt := 204) (pc := 199) C dX10_judge_199 (by decide) ?_
        refine V_iret (pc := 204) C hr hlk dX10_judge_204 ⟨_, rfl, ?_⟩
        have hq := hQ M hF
        rw [if_pos h_194] at hq
        exact hq
    · exact absurd (nI_le (by omega) (by omega)) h_71
  | succ n ih =>
    intro j paid gone M hj hF hQ
    have hc := hC.q (hF.q (by decide))
    have h54' : M.1 54 0 k = nI sz := by rw [hF.1 54 0 (by decide)]; exact h54
    have hdv : nI sz / 2 = nI (sz / 2) := pk_div (d := 2) (by omega) (by decide) (by decide)
    have i1 : M.1 55 0 (40 * k + 2 * j) = M0.1 10 k (2 * j) := by rw [hF.1 55 0 (by decide)]; exact hit _ (by omega)
    have i2 : M.1 55 0 (40 * k + 2 * j + 1) = M0.1 10 k (2 * j + 1) := by rw [hF.1 55 0 (by decide)]; have h := hit (2 * j + 1) (by omega); rw [← Nat.add_assoc] at h; exact h
    unfold jRun at hQ
    generalize M0.1 10 k (2 * j) = bv at i1 hQ
    generalize M0.1 10 k (2 * j + 1) = tv at i2 hQ
    have bad : kRow M0 nb nt r e1 e2 bv tv gone < 0 → ∀ M', frK 36 Ms M' → Qf (if what = 0 then nI j else paid) M' := by
      intro hb M' hF'
      have hq := hQ M' hF'
      rw [if_pos hb] at hq
      exact hq
    have nOK : ¬ kRowOK M0 nb nt bv tv gone → kRow M0 nb nt r e1 e2 bv tv gone < 0 := fun e => by
      unfold kRow
      rw [if_neg e]
      decide
    refine V_iload (pc := 61) C 6 dX10_judge_61 rfl ?_
    refine V_aload_n (pc := 63) C 0 dX10_judge_63 rfl rfl ?_
    refine get_X10_90 (pc := 64) C (wg hG (by decide) (by decide)) dX10_judge_64 ?_
    refine V_iload_n (pc := 67) C 1 dX10_judge_67 rfl rfl ?_
    refine V_iald (pc := 68) C (k) rfl hk (Nat.le_of_ble_eq_true rfl) (wg hG (by decide) (by decide)) wF_54 dX10_judge_68 ?_
    refine V_iconst (v := 2) (pc := 69) C dX10_judge_69 (by decide) ?_
    refine V_idiv (pc := 70) C dX10_judge_70 (by decide) ?_
    rw [h54', hdv]
    refine V_icmp_ge (tgt := 193) (pc := 71) C dX10_judge_71 (by decide) (fun h_71 => ?_) (fun h_71 => ?_)
    · exact absurd h_71 (nI_ge (by omega) (by omega))
    · refine V_iload (pc := 74) C 5 dX10_judge_74 rfl ?_
      refine V_iconst (v := -1) (pc := 76) C dX10_judge_76 (by decide) ?_
      refine V_icmp_ne (tgt := 193) (pc := 77) C dX10_judge_77 (by decide) (fun h_77 => ?_) (fun h_77 => ?_)
      · exact absurd rfl h_77
      · refine V_aload_n (pc := 80) C 0 dX10_judge_80 rfl rfl ?_
        refine get_X10_93 (pc := 81) C (wg hG (by decide) (by decide)) dX10_judge_81 ?_
        refine V_bipush (v := 40) (pc := 84) C dX10_judge_84 (by decide) ?_
        refine V_iload_n (pc := 86) C 1 dX10_judge_86 rfl rfl ?_
        refine V_imul (pc := 87) C dX10_judge_87 ?_
        refine V_iconst (v := 2) (pc := 88) C dX10_judge_88 (by decide) ?_
        refine V_iload (pc := 89) C 6 dX10_judge_89 rfl ?_
        refine V_imul (pc := 91) C dX10_judge_91 ?_
        refine V_iadd (pc := 92) C dX10_judge_92 ?_
        refine V_iald (pc := 93) C (40 * k + 2 * j) (ix40 k j) (by omega) (Nat.le_of_ble_eq_true rfl) (wg hG (by decide) (by decide)) wF_55 dX10_judge_93 ?_
        rw [i1]
        refine Vs_istore (lv' := [(0, _), (1, _), (2, _), (3, _), (4, _), (5, _), (6, _), (7, _)]) (pc := 94) C dX10_judge_94 (by decide) rfl rfl ?_
        refine V_aload_n (pc := 96) C 0 dX10_judge_96 rfl rfl ?_
        refine get_X10_93 (pc := 97) C (wg hG (by decide) (by decide)) dX10_judge_97 ?_
        refine V_bipush (v := 40) (pc := 100) C dX10_judge_100 (by decide) ?_
        refine V_iload_n (pc := 102) C 1 dX10_judge_102 rfl rfl ?_
        refine V_imul (pc := 103) C dX10_judge_103 ?_
        refine V_iconst (v := 2) (pc := 104) C dX10_judge_104 (by decide) ?_
        refine V_iload (pc := 105) C 6 dX10_judge_105 rfl ?_
        refine V_imul (pc := 107) C dX10_judge_107 ?_
        refine V_iadd (pc := 108) C dX10_judge_108 ?_
        refine V_iconst (v := 1) (pc := 109) C dX10_judge_109 (by decide) ?_
        refine V_iadd (pc := 110) C dX10_judge_110 ?_
        refine V_iald (pc := 111) C (40 * k + 2 * j + 1) (by rw [ix40, nI_1]) (by omega) (Nat.le_of_ble_eq_true rfl) (wg hG (by decide) (by decide)) wF_55 dX10_judge_111 ?_
        rw [i2]
        refine Vs_istore (lv' := [(0, _), (1, _), (2, _), (3, _), (4, _), (5, _), (6, _), (7, _), (8, _)]) (pc := 112) C dX10_judge_112 (by decide) rfl rfl ?_
        refine V_aload_n (pc := 114) C 0 dX10_judge_114 rfl rfl ?_
        refine V_iload (pc := 115) C 7 dX10_judge_115 rfl ?_
        refine call_X10_132 (pc := 117) C (c_X10_isBuyer (d := d - 1) hG (by omega) M hc.2.1.1.1 hb7 bv) (by omega) (wg hG (by decide) (by decide)) (Nat.le_of_ble_eq_true rfl) dX10_judge_117 (fun x_117 M_117 h_117 => ?_)
        obtain ⟨e_117, rfl⟩ := h_117
        have e_117 := e_117.symm
        subst e_117
        refine V_if_eq (tgt := 155) (pc := 120) C dX10_judge_120 (by decide) (fun h_120 => ?_) (fun h_120 => ?_)
        · have h_120 := bJ_0.mp h_120
          have hbad := bad (nOK (fun e => h_120 e.1)) M hF
          refine V_bipush (v := -5) (pc := 155) C dX10_judge_155 (by decide) ?_
          refine Vs_istore (lv' := [(0, _), (1, _), (2, _), (3, _), (4, _), (5, _), (6, _), (7, _), (8, _), (9, _)]) (pc := 157) C dX10_judge_157 (by decide) rfl rfl ?_
          refine V_iload (pc := 159) C 9 dX10_judge_159 rfl ?_
          refine V_bipush (v := -5) (pc := 161) C dX10_judge_161 (by decide) ?_
          refine V_icmp_ne (tgt := 173) (pc := 163) C dX10_judge_163 (by decide) (fun h_163 => ?_) (fun h_163 => ?_)
          · exact absurd rfl h_163
          · refine V_iload (pc := 166) C 6 dX10_judge_166 rfl ?_
            refine Vs_istore (lv' := [(0, _), (1, _), (2, _), (3, _), (4, _), (5, _), (6, _), (7, _), (8, _), (9, _)]) (pc := 168) C dX10_judge_168 (by decide) rfl rfl ?_
            refine V_goto (tgt := 187) (pc := 170) C dX10_judge_170 (by decide) ?_
            refine Vs_iinc (v := nI (j + 1)) (lv' := [(0, _), (1, _), (2, _), (3, _), (4, _), (5, _), (6, _), (7, _), (8, _), (9, _)]) (pc := 187) C 6 dX10_judge_187 rfl (by decide) rfl (nI_i1 (j)) rfl ?_
            refine V_goto (tgt := 61) (pc := 190) C dX10_judge_190 (by decide) ?_
            refine V_loc (lv' := [(0, _), (1, _), (2, _), (3, _), (4, _), (5, _), (6, _)]) [0, 1, 2, 3, 4, 5, 6] rfl ?_
            exact lx_X10_judge C hr hlk hG hk h40 h54' (by omega) what paid _ _ _ hbad
        · have h_120 := bJ_1.mp h_120
          obtain ⟨bb, hbb, rfl⟩ := ix_of h_120.1 h_120.2 (by omega)
          refine V_aload_n (pc := 123) C 0 dX10_judge_123 rfl rfl ?_
          refine V_iload (pc := 124) C 8 dX10_judge_124 rfl ?_
          refine call_X10_128 (pc := 126) C (c_X10_isThing (d := d - 1) hG (by omega) M hc.2.1.1.2 hn7 tv) (by omega) (wg hG (by decide) (by decide)) (Nat.le_of_ble_eq_true rfl) dX10_judge_126 (fun x_126 M_126 h_126 => ?_)
          obtain ⟨e_126, rfl⟩ := h_126
          have e_126 := e_126.symm
          subst e_126
          refine V_if_eq (tgt := 155) (pc := 129) C dX10_judge_129 (by decide) (fun h_129 => ?_) (fun h_129 => ?_)
          · have h_129 := bJ_0.mp h_129
            have hbad := bad (nOK (fun e => h_129 e.2.1)) M hF
            refine V_bipush (v := -5) (pc := 155) C dX10_judge_155 (by decide) ?_
            refine Vs_istore (lv' := [(0, _), (1, _), (2, _), (3, _), (4, _), (5, _), (6, _), (7, _), (8, _), (9, _)]) (pc := 157) C dX10_judge_157 (by decide) rfl rfl ?_
            refine V_iload (pc := 159) C 9 dX10_judge_159 rfl ?_
            refine V_bipush (v := -5) (pc := 161) C dX10_judge_161 (by decide) ?_
            refine V_icmp_ne (tgt := 173) (pc := 163) C dX10_judge_163 (by decide) (fun h_163 => ?_) (fun h_163 => ?_)
            · exact absurd rfl h_163
            · refine V_iload (pc := 166) C 6 dX10_judge_166 rfl ?_
              refine Vs_istore (lv' := [(0, _), (1, _), (2, _), (3, _), (4, _), (5, _), (6, _), (7, _), (8, _), (9, _)]) (pc := 168) C dX10_judge_168 (by decide) rfl rfl ?_
              refine V_goto (tgt := 187) (pc := 170) C dX10_judge_170 (by decide) ?_
              refine Vs_iinc (v := nI (j + 1)) (lv' := [(0, _), (1, _), (2, _), (3, _), (4, _), (5, _), (6, _), (7, _), (8, _), (9, _)]) (pc := 187) C 6 dX10_judge_187 rfl (by decide) rfl (nI_i1 (j)) rfl ?_
              refine V_goto (tgt := 61) (pc := 190) C dX10_judge_190 (by decide) ?_
              refine V_loc (lv' := [(0, _), (1, _), (2, _), (3, _), (4, _), (5, _), (6, _)]) [0, 1, 2, 3, 4, 5, 6] rfl ?_
              exact lx_X10_judge C hr hlk hG hk h40 h54' (by omega) what paid _ _ _ hbad
          · have h_129 := bJ_1.mp h_129
            obtain ⟨tt, htt, rfl⟩ := ix_of h_129.1 h_129.2 (by omega)
            have hsh := shw_alone (M0 := M0) (t := tt) hn7 htt
            have hNP := hsh.IP hC.1
            have hrg := kPrice_range hNP.2.2.2.1 hNP.2.2.2.2 (k := bb) (by omega) r e1 e2 (M0.1 28 0 bb) 0 (by decide)
            refine V_iload_n (pc := 132) C 3 dX10_judge_132 rfl rfl ?_
            refine V_iload (pc := 133) C 8 dX10_judge_133 rfl ?_
            refine V_ishr (pc := 135) C dX10_judge_135 ?_
            refine V_iconst (v := 1) (pc := 136) C dX10_judge_136 (by decide) ?_
            refine V_iand (pc := 137) C dX10_judge_137 ?_
            refine V_if_ne (tgt := 155) (pc := 138) C dX10_judge_138 (by decide) (fun h_138 => ?_) (fun h_138 => ?_)
            · rw [or_bit] at h_138
              have hbad := bad (nOK (fun e => h_138 ⟨by have := e.2.2.2; rw [nI_clamp (by omega)] at this; exact this, e.2.2.1⟩)) M hF
              refine V_bipush (v := -5) (pc := 155) C dX10_judge_155 (by decide) ?_
              refine Vs_istore (lv' := [(0, _), (1, _), (2, _), (3, _), (4, _), (5, _), (6, _), (7, _), (8, _), (9, _)]) (pc := 157) C dX10_judge_157 (by decide) rfl rfl ?_
              refine V_iload (pc := 159) C 9 dX10_judge_159 rfl ?_
              refine V_bipush (v := -5) (pc := 161) C dX10_judge_161 (by decide) ?_
              refine V_icmp_ne (tgt := 173) (pc := 163) C dX10_judge_163 (by decide) (fun h_163 => ?_) (fun h_163 => ?_)
              · exact absurd rfl h_163
              · refine V_iload (pc := 166) C 6 dX10_judge_166 rfl ?_
                refine Vs_istore (lv' := [(0, _), (1, _), (2, _), (3, _), (4, _), (5, _), (6, _), (7, _), (8, _), (9, _)]) (pc := 168) C dX10_judge_168 (by decide) rfl rfl ?_
                refine V_goto (tgt := 187) (pc := 170) C dX10_judge_170 (by decide) ?_
                refine Vs_iinc (v := nI (j + 1)) (lv' := [(0, _), (1, _), (2, _), (3, _), (4, _), (5, _), (6, _), (7, _), (8, _), (9, _)]) (pc := 187) C 6 dX10_judge_187 rfl (by decide) rfl (nI_i1 (j)) rfl ?_
                refine V_goto (tgt := 61) (pc := 190) C dX10_judge_190 (by decide) ?_
                refine V_loc (lv' := [(0, _), (1, _), (2, _), (3, _), (4, _), (5, _), (6, _)]) [0, 1, 2, 3, 4, 5, 6] rfl ?_
                exact lx_X10_judge C hr hlk hG hk h40 h54' (by omega) what paid _ _ _ hbad
            · rw [or_bit] at h_138
              have hOK : kRowOK M0 nb nt (nI bb) (nI tt) gone := ⟨h_120, h_129, h_138.2, by rw [nI_clamp (by omega)]; exact h_138.1⟩
              have hkr : kRow M0 nb nt r e1 e2 (nI bb) (nI tt) gone = kPrice (kAlone M0 tt) r e1 e2 bb (M0.1 28 0 bb) 0 := by
                unfold kRow
                rw [if_pos hOK, nI_clamp (by omega), nI_clamp (by omega)]
              refine V_aload_n (pc := 141) C 0 dX10_judge_141 rfl rfl ?_
              refine V_iload (pc := 142) C 7 dX10_judge_142 rfl ?_
              refine V_iconst (v := 1) (pc := 144) C dX10_judge_144 (by decide) ?_
              refine V_iload (pc := 145) C 8 dX10_judge_145 rfl ?_
              refine V_ishl (pc := 147) C dX10_judge_147 ?_
              refine V_iconst (v := 0) (pc := 148) C dX10_judge_148 (by decide) ?_
              refine call_X10_285 (pc := 149) C (r_taking (d := d - 1) hG (by omega) hc hsh (k := bb) (by omega) (by decide)) (by omega) (wg hG (by decide) (by decide)) (Nat.le_of_ble_eq_true rfl) dX10_judge_149 (fun x_149 M_149 h_149 => ?_)
              obtain ⟨f1, f2, f3⟩ := h_149
              rw [← hkr] at f3 hrg
              have hF2 := hF.tr f1
              refine V_goto (tgt := 157) (pc := 152) C dX10_judge_152 (by decide) ?_
              refine Vs_istore (lv' := [(0, _), (1, _), (2, _), (3, _), (4, _), (5, _), (6, _), (7, _), (8, _), (9, _)]) (pc := 157) C dX10_judge_157 (by decide) rfl rfl ?_
              refine V_iload (pc := 159) C 9 dX10_judge_159 rfl ?_
              refine V_bipush (v := -5) (pc := 161) C dX10_judge_161 (by decide) ?_
              refine V_icmp_ne (tgt := 173) (pc := 163) C dX10_judge_163 (by decide) (fun h_163 => ?_) (fun h_163 => ?_)
              · have hge : ¬ kRow M0 nb nt r e1 e2 (nI bb) (nI tt) gone < 0 := Int32.not_lt.mpr (hrg.resolve_left (fun e => h_163 (f3.trans e))).1
                rw [if_neg hge, ← f3] at hQ
                refine V_iload_n (pc := 173) C 3 dX10_judge_173 rfl rfl ?_
                refine V_iconst (v := 1) (pc := 174) C dX10_judge_174 (by decide) ?_
                refine V_iload (pc := 175) C 8 dX10_judge_175 rfl ?_
                refine V_ishl (pc := 177) C dX10_judge_177 ?_
                refine V_ior (pc := 178) C dX10_judge_178 ?_
                refine Vs_istore_n (lv' := [(0, _), (1, _), (2, _), (3, _), (4, _), (5, _), (6, _), (7, _), (8, _), (9, _)]) (pc := 179) C dX10_judge_179 rfl (by decide) rfl rfl ?_
                refine V_iload (pc := 180) C 4 dX10_judge_180 rfl ?_
                refine V_iload (pc := 182) C 9 dX10_judge_182 rfl ?_
                refine V_iadd (pc := 184) C dX10_judge_184 ?_
                refine Vs_istore (lv' := [(0, _), (1, _), (2, _), (3, _), (4, _), (5, _), (6, _), (7, _), (8, _), (9, _)]) (pc := 185) C dX10_judge_185 (by decide) rfl rfl ?_
                refine Vs_iinc (v := nI (j + 1)) (lv' := [(0, _), (1, _), (2, _), (3, _), (4, _), (5, _), (6, _), (7, _), (8, _), (9, _)]) (pc := 187) C 6 dX10_judge_187 rfl (by decide) rfl (nI_i1 (j)) rfl ?_
                refine V_goto (tgt := 61) (pc := 190) C dX10_judge_190 (by decide) ?_
                refine V_loc (lv' := [(0, _), (1, _), (2, _), (3, _), (4, _), (5, _), (6, _)]) [0, 1, 2, 3, 4, 5, 6] rfl ?_
                rw [Int32.or_assoc]
                exact ih (j + 1) _ _ _ (by omega) hF2 hQ
              · have hbad := bad (by rw [← f3, h_163]; decide) M_149 hF2
                refine V_iload (pc := 166) C 6 dX10_judge_166 rfl ?_
                refine Vs_istore (lv' := [(0, _), (1, _), (2, _), (3, _), (4, _), (5, _), (6, _), (7, _), (8, _), (9, _)]) (pc := 168) C dX10_judge_168 (by decide) rfl rfl ?_
                refine V_goto (tgt := 187) (pc := 170) C dX10_judge_170 (by decide) ?_
                refine Vs_iinc (v := nI (j + 1)) (lv' := [(0, _), (1, _), (2, _), (3, _), (4, _), (5, _), (6, _), (7, _), (8, _), (9, _)]) (pc := 187) C 6 dX10_judge_187 rfl (by decide) rfl (nI_i1 (j)) rfl ?_
                refine V_goto (tgt := 61) (pc := 190) C dX10_judge_190 (by decide) ?_
                refine V_loc (lv' := [(0, _), (1, _), (2, _), (3, _), (4, _), (5, _), (6, _)]) [0, 1, 2, 3, 4, 5, 6] rfl ?_
                exact lx_X10_judge C hr hlk hG hk h40 (by rw [f1.1 54 0 (by decide)]; exact h54') (by omega) what paid _ _ _ hbad
theorem r_judge (hG : 56 ≤ G) (hd : 44 ≤ d) {M0 M : wS} {nb nt r e1 e2 e3 : Nat} (hC : rC M0 M nb nt r e1 e2 e3) (hS : ∀ k, k < 4 → rS1 M0 M k) (sheet what : Int32) : Ctr l D cy ad G d yX10_judge cX10_judge 10 (some .int) [.ref (ad 30 0), .int sheet, .int what] M (rI fun x M' => qF M M' ∧ (kJudgeOK M0 sheet what → ∀ k n, sheet = nI k → k < 4 → M0.1 9 k 2 = nI n → n ≤ 40 → x = if M0.1 9 k 1 = -1 then -11 else if n % 2 = 1 then -2 else if what = 0 then (jRun M0 nb nt r e1 e2 (M0.1 10 k) (n / 2) 0 0 0).1 else (jRun M0 nb nt r e1 e2 (M0.1 10 k) (n / 2) 0 0 0).2) ∧ (¬ kJudgeOK M0 sheet what → x = -2)) := by
  refine Ctr.of (lv0 := [(0, _), (1, _), (2, _)]) (by decide) (Nat.le_of_ble_eq_true rfl) rfl ?_
  intro p e s m args below meth c C hr hlk _
  have C : CX p s m args c cX10_judge 10 "CostsAgeModel" D cy ad G (wA ad G) (Rm d) d 0 0 := C
  refine V_iload_n (pc := 0) C 1 dX10_judge_0 rfl rfl ?_
  refine call_X10_326 (pc := 1) C (c_X10_isSheet (d := d - 1) hG (by omega) M sheet) (by omega) (Nat.le_of_ble_eq_true rfl) dX10_judge_1 (fun x_1 M_1 h_1 => ?_)
  obtain ⟨e_1, rfl⟩ := h_1
  have e_1 := e_1.symm
  subst e_1
  refine V_if_eq (tgt := 17) (pc := 4) C dX10_judge_4 (by decide) (fun h_4 => ?_) (fun h_4 => ?_)
  · have h_4 := bJ_0.mp h_4
    refine V_bipush (v := -2) (pc := 17) C dX10_judge_17 (by decide) ?_
    refine V_iret (pc := 19) C hr hlk dX10_judge_19 ⟨_, rfl, ?_⟩
    first | exact ⟨qF.rf, fun e => absurd e.1 h_4, fun _ => rfl⟩ | exact ⟨qF.rf, fun e => absurd e.2 h_14, fun _ => rfl⟩
  · have h_4 := bJ_1.mp h_4
    obtain ⟨k, hk, rfl⟩ := ix_of (n := 4) h_4.1 h_4.2 (by decide)
    obtain ⟨sz, s1, s2, s3, s4⟩ := hS k hk
    have hsame : ∀ k' n, nI k = nI k' → k' < 4 → M0.1 9 k' 2 = nI n → n ≤ 40 → k' = k ∧ n = sz := fun k' n a b c2 e => by
      have h1 := (nI_eq (by omega) (by omega)).mp a
      subst h1
      exact ⟨rfl, (nI_eq (by omega) (by omega)).mp (c2.symm.trans s2)⟩
    refine V_iload_n (pc := 7) C 2 dX10_judge_7 rfl rfl ?_
    refine V_i2l (pc := 8) C dX10_judge_8 ?_
    refine V_lconst (v := 0) (pc := 9) C dX10_judge_9 (by decide) ?_
    refine V_lconst (v := 1) (pc := 10) C dX10_judge_10 (by decide) ?_
    refine call_X10_106 (pc := 11) C (c_in (d := d - 1) M what 0 1 (by decide) (by decide)) (by omega) (Nat.le_of_ble_eq_true rfl) dX10_judge_11 (fun x_11 M_11 h_11 => ?_)
    obtain ⟨e_11, rfl⟩ := h_11
    have e_11 := e_11.symm
    subst e_11
    refine V_if_ne (tgt := 20) (pc := 14) C dX10_judge_14 (by decide) (fun h_14 => ?_) (fun h_14 => ?_)
    · have h_14 := bJ_1.mp h_14
      refine V_aload_n (pc := 20) C 0 dX10_judge_20 rfl rfl ?_
      refine get_X10_83 (pc := 21) C (wg hG (by decide) (by decide)) dX10_judge_21 ?_
      refine V_iload_n (pc := 24) C 1 dX10_judge_24 rfl rfl ?_
      refine V_zald (pc := 25) C (k) rfl hk (Nat.le_of_ble_eq_true rfl) (wg hG (by decide) (by decide)) wF_52 dX10_judge_25 ?_
      rw [s3]
      refine V_if_ne (tgt := 32) (pc := 26) C dX10_judge_26 (by decide) (fun h_26 => ?_) (fun h_26 => ?_)
      · have hpr : ¬ M0.1 9 k 1 = -1 := fun e => h_26 (by rw [← bI_f (fun y => y e)])
        obtain ⟨-, -, s6, s7⟩ := s4 hpr
        refine V_aload_n (pc := 32) C 0 dX10_judge_32 rfl rfl ?_
        refine get_X10_90 (pc := 33) C (wg hG (by decide) (by decide)) dX10_judge_33 ?_
        refine V_iload_n (pc := 36) C 1 dX10_judge_36 rfl rfl ?_
        refine V_iald (pc := 37) C (k) rfl hk (Nat.le_of_ble_eq_true rfl) (wg hG (by decide) (by decide)) wF_54 dX10_judge_37 ?_
        refine V_iconst (v := 2) (pc := 38) C dX10_judge_38 (by decide) ?_
        refine V_irem (pc := 39) C dX10_judge_39 (by decide) ?_
        refine V_iconst (v := 1) (pc := 40) C dX10_judge_40 (by decide) ?_
        rw [s6, show (2 : Int32) = nI 2 from by decide, pk_rem (by omega) (by decide) (by decide)]
        refine V_icmp_ne (tgt := 47) (pc := 41) C dX10_judge_41 (by decide) (fun h_41 => ?_) (fun h_41 => ?_)
        · have hev : ¬ sz % 2 = 1 := fun e => h_41 (by rw [e]; rfl)
          refine V_aload_n (pc := 47) C 0 dX10_judge_47 rfl rfl ?_
          refine get_X10_113 (pc := 48) C (wg hG (by decide) (by decide)) dX10_judge_48 ?_
          refine Vs_istore_n (lv' := [(0, _), (1, _), (2, _), (3, _)]) (pc := 51) C dX10_judge_51 rfl (by decide) rfl rfl ?_
          refine V_iconst (v := 0) (pc := 52) C dX10_judge_52 (by decide) ?_
          refine Vs_istore (lv' := [(0, _), (1, _), (2, _), (3, _), (4, _)]) (pc := 53) C dX10_judge_53 (by decide) rfl rfl ?_
          refine V_iconst (v := -1) (pc := 55) C dX10_judge_55 (by decide) ?_
          refine Vs_istore (lv' := [(0, _), (1, _), (2, _), (3, _), (4, _), (5, _)]) (pc := 56) C dX10_judge_56 (by decide) rfl rfl ?_
          refine V_iconst (v := 0) (pc := 58) C dX10_judge_58 (by decide) ?_
          refine Vs_istore (lv' := [(0, _), (1, _), (2, _), (3, _), (4, _), (5, _), (6, _)]) (pc := 59) C dX10_judge_59 (by decide) rfl rfl ?_
          rw [hC.2.1.2.1.1, ← Int32.or_zero (a := M0.1 26 0 3)]
          refine V_loc (lv' := [(0, _), (1, _), (2, _), (3, _), (4, _), (5, _), (6, _)]) [0, 1, 2, 3, 4, 5, 6] rfl ?_
          refine lp_X10_judge C hr hlk hG (by omega) hC hk s1 s6 s7 what _ (sz / 2) 0 0 0 M (by omega) frK.rf (fun M' hF => ⟨hF.q (by decide), fun _ k' n a b c2 e => ?_, fun e => absurd ⟨h_4, h_14⟩ e⟩)
          obtain ⟨rfl, rfl⟩ := hsame k' n a b c2 e
          rw [if_neg hpr, if_neg hev]
        · have hev : sz % 2 = 1 := (nI_eq (b := 1) (by omega) (by decide)).mp h_41
          refine V_bipush (v := -2) (pc := 44) C dX10_judge_44 (by decide) ?_
          refine V_iret (pc := 46) C hr hlk dX10_judge_46 ⟨_, rfl, ?_⟩
          refine ⟨qF.rf, fun _ k' n a b c2 e => ?_, fun e => absurd ⟨h_4, h_14⟩ e⟩
          obtain ⟨rfl, rfl⟩ := hsame k' n a b c2 e
          rw [if_neg hpr, if_pos hev]
          rfl
      · have hpr : M0.1 9 k 1 = -1 := Decidable.byContradiction (fun e => absurd ((bI_t e).trans h_26) (by decide))
        refine V_bipush (v := -11) (pc := 29) C dX10_judge_29 (by decide) ?_
        refine V_iret (pc := 31) C hr hlk dX10_judge_31 ⟨_, rfl, ?_⟩
        refine ⟨qF.rf, fun _ k' n a b c2 e => ?_, fun e => absurd ⟨h_4, h_14⟩ e⟩
        obtain ⟨rfl, rfl⟩ := hsame k' n a b c2 e
        rw [if_pos hpr]
    · have h_14 := bJ_0.mp h_14
      refine V_bipush (v := -2) (pc := 17) C dX10_judge_17 (by decide) ?_
      refine V_iret (pc := 19) C hr hlk dX10_judge_19 ⟨_, rfl, ?_⟩
      first | exact ⟨qF.rf, fun e => absurd e.1 h_4, fun _ => rfl⟩ | exact ⟨qF.rf, fun e => absurd e.2 h_14, fun _ => rfl⟩
end S63
