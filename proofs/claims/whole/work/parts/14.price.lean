theorem mset_mrow (M : wS) (g i k : Nat) (f : Nat → Int32) (x : Int32) : mset (mrow M g i f) g i k x = mrow M g i (upd f k x) := by
  refine Prod.ext ?_ rfl
  funext g' i'
  by_cases h : g' = g ∧ i' = i
  · simp [mset, mrow, h]
  · simp [mset, mrow, h]
theorem mrow_mrow (M : wS) (g i : Nat) (f f2 : Nat → Int32) : mrow (mrow M g i f) g i f2 = mrow M g i f2 := by
  refine Prod.ext ?_ rfl
  funext g' i'
  by_cases h : g' = g ∧ i' = i
  · simp [mrow, h]
  · simp [mrow, h]
theorem mrow_id (M : wS) (g i : Nat) : mrow M g i (M.1 g i) = M := by
  refine Prod.ext ?_ rfl
  funext g' i'
  by_cases h : g' = g ∧ i' = i
  · obtain ⟨rfl, rfl⟩ := h
    simp [mrow]
  · simp [mrow, h]
theorem ix_name {q : Int32} (h1 : ¬ q < -6) (h2 : q < 0) : ∃ j, j < 6 ∧ -1 - q = nI j := by
  refine ix_of (n := 6) ?_ ?_ (by decide)
  · (simp only [i32_eq, Int32.le_iff_toInt_le, Int32.lt_iff_toInt_lt, Int32.not_le, Int32.not_lt, Int32.toInt_add, Int32.toInt_sub, Int32.toInt_mul, Int32.toInt_neg, Int32.toInt_div, tdv2, tdv4, tdv10, tdv52, tdv100, nI_T, apply_ite Int32.toInt, Int.bmod, Int32.reduceToInt] at *; omega)
  · (simp only [i32_eq, Int32.le_iff_toInt_le, Int32.lt_iff_toInt_lt, Int32.not_le, Int32.not_lt, Int32.toInt_add, Int32.toInt_sub, Int32.toInt_mul, Int32.toInt_neg, Int32.toInt_div, tdv2, tdv4, tdv10, tdv52, tdv100, nI_T, apply_ite Int32.toInt, Int.bmod, Int32.reduceToInt] at *; omega)
theorem top_0 {top : Int32} {n : Nat} (h : top.toInt = (n : Int) - 1) : top < 0 ↔ n = 0 := by (simp only [i32_eq, Int32.le_iff_toInt_le, Int32.lt_iff_toInt_lt, Int32.not_le, Int32.not_lt, Int32.toInt_add, Int32.toInt_sub, Int32.toInt_mul, Int32.toInt_neg, Int32.toInt_div, tdv2, tdv4, tdv10, tdv52, tdv100, nI_T, apply_ite Int32.toInt, Int.bmod, Int32.reduceToInt] at *; omega)
theorem top_1 {top : Int32} {n : Nat} (h : top.toInt = (n : Int) - 1) : top < 1 ↔ n ≤ 1 := by (simp only [i32_eq, Int32.le_iff_toInt_le, Int32.lt_iff_toInt_lt, Int32.not_le, Int32.not_lt, Int32.toInt_add, Int32.toInt_sub, Int32.toInt_mul, Int32.toInt_neg, Int32.toInt_div, tdv2, tdv4, tdv10, tdv52, tdv100, nI_T, apply_ite Int32.toInt, Int.bmod, Int32.reduceToInt] at *; omega)
theorem top_i {top : Int32} {n : Nat} (h : top.toInt = (n : Int) - 1) (hn : 1 ≤ n) : top = nI (n - 1) := by
  have := Int32.toInt_lt top
  (simp only [i32_eq, Int32.le_iff_toInt_le, Int32.lt_iff_toInt_lt, Int32.not_le, Int32.not_lt, Int32.toInt_add, Int32.toInt_sub, Int32.toInt_mul, Int32.toInt_neg, Int32.toInt_div, tdv2, tdv4, tdv10, tdv52, tdv100, nI_T, apply_ite Int32.toInt, Int.bmod, Int32.reduceToInt] at *; omega)
theorem top_u {top : Int32} {n : Nat} (h : top.toInt = (n : Int) - 1) : top + Int32.ofInt 1 = nI n := by
  have h1 : Int32.ofInt 1 = 1 := by decide
  have := Int32.toInt_lt top
  rw [h1]
  (simp only [i32_eq, Int32.le_iff_toInt_le, Int32.lt_iff_toInt_lt, Int32.not_le, Int32.not_lt, Int32.toInt_add, Int32.toInt_sub, Int32.toInt_mul, Int32.toInt_neg, Int32.toInt_div, tdv2, tdv4, tdv10, tdv52, tdv100, nI_T, apply_ite Int32.toInt, Int.bmod, Int32.reduceToInt] at *; omega)
theorem top_d {top : Int32} {n : Nat} (h : top.toInt = (n : Int) - 1) (hn : 2 ≤ n) : top + Int32.ofInt (-1) = nI (n - 2) := by
  have h1 : Int32.ofInt (-1) = -1 := by decide
  have := Int32.toInt_lt top
  rw [h1]
  (simp only [i32_eq, Int32.le_iff_toInt_le, Int32.lt_iff_toInt_lt, Int32.not_le, Int32.not_lt, Int32.toInt_add, Int32.toInt_sub, Int32.toInt_mul, Int32.toInt_neg, Int32.toInt_div, tdv2, tdv4, tdv10, tdv52, tdv100, nI_T, apply_ite Int32.toInt, Int.bmod, Int32.reduceToInt] at *; omega)
theorem nI_tm {n : Nat} (h : n < 2 ^ 31) : (nI n).toInt = ((n + 1 : Nat) : Int) - 1 := by
  rw [nI_toInt h]
  omega
theorem lt_m8 {q : Int32} (h1 : q < -6) (h2 : ¬ q = -7) (h3 : ¬ q = -8) : q < -8 := by (simp only [i32_eq, Int32.le_iff_toInt_le, Int32.lt_iff_toInt_lt, Int32.not_le, Int32.not_lt, Int32.toInt_add, Int32.toInt_sub, Int32.toInt_mul, Int32.toInt_neg, Int32.toInt_div, tdv2, tdv4, tdv10, tdv52, tdv100, nI_T, apply_ite Int32.toInt, Int.bmod, Int32.reduceToInt] at *; omega)
section S14
variable {l : Launch} {D : va_G} {cy : Nat → ClassId} {ad : Nat → Nat → Nat} {G d : Nat}
set_option maxHeartbeats 4000000 in
theorem lp_X4_worth {p : Program} {e : Env} {s : State} {m : MethodId} {args : Array Value} {below : List Frame} {meth : Method} {c : Code} (C : CX p s m args c cX4_worth 7 "CostsAge$Scene" D cy ad G (wA ad G) (Rm d) d 0 0) (hr : meth.sig.returnType = (some .int)) (hlk : meth.locks = false) (hG : 30 ≤ G) (hd : 1 ≤ d) {t : Nat} (ht : t < 6) (va : Int32) {b : Nat} (hb : b ≤ 160) (M0 : wS) (Qf : Int32 → wS → Prop) : ∀ (n i : Nat) (st : List Int32) (top : Int32) (f : Nat → Int32), i + n = b → st.length + n ≤ 160 → top.toInt = (st.length : Int) - 1 → xSR f st → (∀ f', Qf (xTop (xRun (M0.1 14 0) (M0.1 8 t) i n st)) (mrow M0 15 0 f')) → V p l e (Rm d) s m args below meth c 7 D cy ad G (wA ad G) 0 0 (MQ below (wQ D cy ad G (rI Qf)) args s 0 0 (wA ad G)) 6 [(0, .ref (ad 13 0)), (1, .ref (ad 8 t)), (2, .int va), (3, .int (nI b)), (4, .int top), (5, .int (nI i))] [] (mrow M0 15 0 f) := by
  intro n
  induction n with
  | zero =>
    intro i st top f hi hl htop hsr hq
    refine V_iload (pc := 6) C 5 dX4_worth_6 rfl ?_
    refine V_iload_n (pc := 8) C 3 dX4_worth_8 rfl rfl ?_
    refine V_icmp_ge (tgt := 167) (pc := 9) C dX4_worth_9 (by decide) (fun h_9 => ?_) (fun h_9 => ?_)
    · refine V_iload (pc := 167) C 4 dX4_worth_167 rfl ?_
      refine V_if_ge (tgt := 176) (pc := 169) C dX4_worth_169 (by decide) (fun h_169 => ?_) (fun h_169 => ?_)
      · have hx : ∃ x1 r1, st = x1 :: r1 := by
          match st, htop with
          | [], htop => exact absurd ((top_0 htop).mpr rfl) (Int32.not_lt.mpr h_169)
          | x1 :: r1, _ => exact ⟨x1, r1, rfl⟩
        obtain ⟨x1, r1, rfl⟩ := hx
        simp only [List.length_cons] at hl htop
        refine V_aload_n (pc := 176) C 0 dX4_worth_176 rfl rfl ?_
        refine get_X4_15 (pc := 177) C (wg hG (by decide) (by decide)) dX4_worth_177 ?_
        refine V_iload (pc := 180) C 4 dX4_worth_180 rfl ?_
        refine V_iald (pc := 182) C (r1.length) (top_i htop (by omega)) (by omega) (Nat.le_of_ble_eq_true rfl) (wg hG (by decide) (by decide)) wF_15 dX4_worth_182 ?_
        refine V_iret (pc := 183) C hr hlk dX4_worth_183 ⟨_, rfl, ?_⟩
        rw [mrow_self, hsr.1]
        exact hq f
      · have hx : st = [] := by
          match st, htop with
          | [], _ => rfl
          | x1 :: r1, htop => exact absurd ((top_0 htop).mp (Int32.not_le.mp h_169)) (by simp)
        subst hx
        refine V_iconst (v := 0) (pc := 172) C dX4_worth_172 (by decide) ?_
        refine V_goto (tgt := 183) (pc := 173) C dX4_worth_173 (by decide) ?_
        refine V_iret (pc := 183) C hr hlk dX4_worth_183 ⟨_, rfl, ?_⟩
        exact hq f
    · exact absurd (nI_le (by omega) (by omega)) h_9
  | succ n ih =>
    intro i st top f hi hl htop hsr hq
    have hcode : (mrow M0 15 0 f).1 8 t i = M0.1 8 t i := by rw [mrow_ne _ _ _ _ (by omega)]
    have hq2 : ∀ f', Qf (xTop (xRun (M0.1 14 0) (M0.1 8 t) (i + 1) n (xStep (M0.1 14 0) (M0.1 8 t i) st))) (mrow M0 15 0 f') := hq
    refine V_iload (pc := 6) C 5 dX4_worth_6 rfl ?_
    refine V_iload_n (pc := 8) C 3 dX4_worth_8 rfl rfl ?_
    refine V_icmp_ge (tgt := 167) (pc := 9) C dX4_worth_9 (by decide) (fun h_9 => ?_) (fun h_9 => ?_)
    · exact absurd h_9 (nI_ge (by omega) (by omega))
    · refine V_aload_n (pc := 12) C 1 dX4_worth_12 rfl rfl ?_
      refine V_iload (pc := 13) C 5 dX4_worth_13 rfl ?_
      refine V_iald (pc := 15) C (i) rfl (by omega) (Nat.le_of_ble_eq_true rfl) (wg hG (by decide) (show t < 6 from ht)) wF_8 dX4_worth_15 ?_
      rw [hcode]
      generalize M0.1 8 t i = q at hq2 ⊢
      refine Vs_istore (lv' := [(0, _), (1, _), (2, _), (3, _), (4, _), (5, _), (6, _)]) (pc := 16) C dX4_worth_16 (by decide) rfl rfl ?_
      refine V_iload (pc := 18) C 6 dX4_worth_18 rfl ?_
      refine V_bipush (v := -6) (pc := 20) C dX4_worth_20 (by decide) ?_
      refine V_icmp_lt (tgt := 57) (pc := 22) C dX4_worth_22 (by decide) (fun h_22 => ?_) (fun h_22 => ?_)
      · have hs6 : ¬ -6 ≤ q := Int32.not_le.mpr h_22
        refine V_iload (pc := 57) C 4 dX4_worth_57 rfl ?_
        refine V_if_lt (tgt := 94) (pc := 59) C dX4_worth_59 (by decide) (fun h_59 => ?_) (fun h_59 => ?_)
        · have hx : st = [] := by
            match st, htop with
            | [], _ => rfl
            | x1 :: r1, htop => exact absurd ((top_0 htop).mp h_59) (by simp)
          subst hx
          refine V_iload (pc := 94) C 4 dX4_worth_94 rfl ?_
          refine V_if_lt (tgt := 124) (pc := 96) C dX4_worth_96 (by decide) (fun h_96 => ?_) (fun h_96 => ?_)
          · refine V_iload (pc := 124) C 4 dX4_worth_124 rfl ?_
            refine V_iconst (v := 1) (pc := 126) C dX4_worth_126 (by decide) ?_
            refine V_icmp_lt (tgt := 161) (pc := 127) C dX4_worth_127 (by decide) (fun h_127 => ?_) (fun h_127 => ?_)
            · refine Vs_iinc (v := nI (i + 1)) (lv' := [(0, _), (1, _), (2, _), (3, _), (4, _), (5, _), (6, _)]) (pc := 161) C 5 dX4_worth_161 rfl (by decide) rfl (nI_i1 (i)) rfl ?_
              refine V_goto (tgt := 6) (pc := 164) C dX4_worth_164 (by decide) ?_
              refine V_loc (lv' := [(0, _), (1, _), (2, _), (3, _), (4, _), (5, _)]) [0, 1, 2, 3, 4, 5] rfl ?_
              exact ih (i + 1) [] top f (by omega) (by simp at hl ⊢; omega) htop trivial (by simpa [xStep, hs6] using hq2)
            · exact absurd ((top_1 htop).mpr (by simp)) h_127
          · exact absurd h_59 h_96
        · have hx : ∃ x1 r1, st = x1 :: r1 := by
            match st, htop with
            | [], htop => exact absurd ((top_0 htop).mpr rfl) h_59
            | x1 :: r1, _ => exact ⟨x1, r1, rfl⟩
          obtain ⟨x1, r1, rfl⟩ := hx
          have hl1 := hl
          have htop1 := htop
          simp only [List.length_cons] at hl1 htop1
          have htn : top = nI r1.length := top_i htop1 (by omega)
          refine V_iload (pc := 62) C 6 dX4_worth_62 rfl ?_
          refine V_bipush (v := -7) (pc := 64) C dX4_worth_64 (by decide) ?_
          refine V_icmp_ne (tgt := 94) (pc := 66) C dX4_worth_66 (by decide) (fun h_66 => ?_) (fun h_66 => ?_)
          · refine V_iload (pc := 94) C 4 dX4_worth_94 rfl ?_
            refine V_if_lt (tgt := 124) (pc := 96) C dX4_worth_96 (by decide) (fun h_96 => ?_) (fun h_96 => ?_)
            · exact absurd h_96 h_59
            · refine V_iload (pc := 99) C 6 dX4_worth_99 rfl ?_
              refine V_bipush (v := -8) (pc := 101) C dX4_worth_101 (by decide) ?_
              refine V_icmp_ne (tgt := 124) (pc := 103) C dX4_worth_103 (by decide) (fun h_103 => ?_) (fun h_103 => ?_)
              · refine V_iload (pc := 124) C 4 dX4_worth_124 rfl ?_
                refine V_iconst (v := 1) (pc := 126) C dX4_worth_126 (by decide) ?_
                refine V_icmp_lt (tgt := 161) (pc := 127) C dX4_worth_127 (by decide) (fun h_127 => ?_) (fun h_127 => ?_)
                · have hx : r1 = [] := by
                    match r1, htop1 with
                    | [], _ => rfl
                    | x2 :: r2, htop1 => exact absurd ((top_1 htop1).mp h_127) (by simp)
                  subst hx
                  refine Vs_iinc (v := nI (i + 1)) (lv' := [(0, _), (1, _), (2, _), (3, _), (4, _), (5, _), (6, _)]) (pc := 161) C 5 dX4_worth_161 rfl (by decide) rfl (nI_i1 (i)) rfl ?_
                  refine V_goto (tgt := 6) (pc := 164) C dX4_worth_164 (by decide) ?_
                  refine V_loc (lv' := [(0, _), (1, _), (2, _), (3, _), (4, _), (5, _)]) [0, 1, 2, 3, 4, 5] rfl ?_
                  exact ih (i + 1) [x1] top f (by omega) (by simp at hl ⊢; omega) htop hsr (by simpa [xStep, hs6, h_66, h_103] using hq2)
                · have hx : ∃ x2 r2, r1 = x2 :: r2 := by
                    match r1, htop1 with
                    | [], htop1 => exact absurd ((top_1 htop1).mpr (by simp)) h_127
                    | x2 :: r2, _ => exact ⟨x2, r2, rfl⟩
                  obtain ⟨x2, r2, rfl⟩ := hx
                  simp only [List.length_cons] at hl1 htop1
                  have htm : top + Int32.ofInt (-1) = nI r2.length := top_d htop1 (by omega)
                  refine Vs_iinc (lv' := [(0, _), (1, _), (2, _), (3, _), (4, _), (5, _), (6, _)]) (pc := 130) C 4 dX4_worth_130 rfl (by decide) rfl rfl rfl ?_
                  refine V_aload_n (pc := 133) C 0 dX4_worth_133 rfl rfl ?_
                  refine get_X4_15 (pc := 134) C (wg hG (by decide) (by decide)) dX4_worth_134 ?_
                  refine V_iload (pc := 137) C 4 dX4_worth_137 rfl ?_
                  refine V_iload (pc := 139) C 6 dX4_worth_139 rfl ?_
                  refine V_aload_n (pc := 141) C 0 dX4_worth_141 rfl rfl ?_
                  refine get_X4_15 (pc := 142) C (wg hG (by decide) (by decide)) dX4_worth_142 ?_
                  refine V_iload (pc := 145) C 4 dX4_worth_145 rfl ?_
                  refine V_iald (pc := 147) C (r2.length) htm (by omega) (Nat.le_of_ble_eq_true rfl) (wg hG (by decide) (by decide)) wF_15 dX4_worth_147 ?_
                  refine V_aload_n (pc := 148) C 0 dX4_worth_148 rfl rfl ?_
                  refine get_X4_15 (pc := 149) C (wg hG (by decide) (by decide)) dX4_worth_149 ?_
                  refine V_iload (pc := 152) C 4 dX4_worth_152 rfl ?_
                  refine V_iconst (v := 1) (pc := 154) C dX4_worth_154 (by decide) ?_
                  refine V_iadd (pc := 155) C dX4_worth_155 ?_
                  refine V_iald (pc := 156) C (r2.length + 1) (by rw [htm]; exact nI_1 _) (by omega) (Nat.le_of_ble_eq_true rfl) (wg hG (by decide) (by decide)) wF_15 dX4_worth_156 ?_
                  refine call_X4_22 (pc := 157) C (c_X4_joined (d := d - 1) _ q _ _ (lt_m8 h_22 h_66 h_103)) (by omega) (Nat.le_of_ble_eq_true rfl) dX4_worth_157 (fun x_157 M_157 h_157 => ?_)
                  obtain ⟨e_157, rfl⟩ := h_157
                  have e_157 := e_157.symm
                  subst e_157
                  refine V_iast (pc := 160) C (r2.length) htm (by omega) (Nat.le_of_ble_eq_true rfl) (wg hG (by decide) (by decide)) (fun _ => wF_15) dX4_worth_160 ?_
                  rw [mset_mrow, mrow_self]
                  refine Vs_iinc (v := nI (i + 1)) (lv' := [(0, _), (1, _), (2, _), (3, _), (4, _), (5, _), (6, _)]) (pc := 161) C 5 dX4_worth_161 rfl (by decide) rfl (nI_i1 (i)) rfl ?_
                  refine V_goto (tgt := 6) (pc := 164) C dX4_worth_164 (by decide) ?_
                  refine V_loc (lv' := [(0, _), (1, _), (2, _), (3, _), (4, _), (5, _)]) [0, 1, 2, 3, 4, 5] rfl ?_
                  refine ih (i + 1) (xJoin q x2 x1 :: r2) _ _ (by omega) (by simp; omega) (by rw [htm]; exact nI_tm (by omega)) ⟨?_, xSR_upd (Nat.le_refl _) hsr.2.2⟩ ?_
                  · have w1 : f (r2.length + 1) = x1 := hsr.1
                    have w2 : f r2.length = x2 := hsr.2.1
                    simp [upd, w1, w2]
                  · simpa [xStep, hs6, h_66, h_103] using hq2
              · refine V_aload_n (pc := 106) C 0 dX4_worth_106 rfl rfl ?_
                refine get_X4_15 (pc := 107) C (wg hG (by decide) (by decide)) dX4_worth_107 ?_
                refine V_iload (pc := 110) C 4 dX4_worth_110 rfl ?_
                refine V_aload_n (pc := 112) C 0 dX4_worth_112 rfl rfl ?_
                refine get_X4_15 (pc := 113) C (wg hG (by decide) (by decide)) dX4_worth_113 ?_
                refine V_iload (pc := 116) C 4 dX4_worth_116 rfl ?_
                refine V_iald (pc := 118) C (r1.length) htn (by omega) (Nat.le_of_ble_eq_true rfl) (wg hG (by decide) (by decide)) wF_15 dX4_worth_118 ?_
                refine V_ineg (pc := 119) C dX4_worth_119 ?_
                refine V_iast (pc := 120) C (r1.length) htn (by omega) (Nat.le_of_ble_eq_true rfl) (wg hG (by decide) (by decide)) (fun _ => wF_15) dX4_worth_120 ?_
                rw [mset_mrow]
                refine V_goto (tgt := 161) (pc := 121) C dX4_worth_121 (by decide) ?_
                refine Vs_iinc (v := nI (i + 1)) (lv' := [(0, _), (1, _), (2, _), (3, _), (4, _), (5, _), (6, _)]) (pc := 161) C 5 dX4_worth_161 rfl (by decide) rfl (nI_i1 (i)) rfl ?_
                refine V_goto (tgt := 6) (pc := 164) C dX4_worth_164 (by decide) ?_
                refine V_loc (lv' := [(0, _), (1, _), (2, _), (3, _), (4, _), (5, _)]) [0, 1, 2, 3, 4, 5] rfl ?_
                refine ih (i + 1) ((-x1) :: r1) _ _ (by omega) (by simp; omega) htop ⟨by simp [upd, hsr.1, mrow_self], xSR_upd (Nat.le_refl _) hsr.2⟩ ?_
                simpa [xStep, hs6, h_103] using hq2
          · refine V_aload_n (pc := 69) C 0 dX4_worth_69 rfl rfl ?_
            refine get_X4_15 (pc := 70) C (wg hG (by decide) (by decide)) dX4_worth_70 ?_
            refine V_iload (pc := 73) C 4 dX4_worth_73 rfl ?_
            refine V_aload_n (pc := 75) C 0 dX4_worth_75 rfl rfl ?_
            refine get_X4_15 (pc := 76) C (wg hG (by decide) (by decide)) dX4_worth_76 ?_
            refine V_iload (pc := 79) C 4 dX4_worth_79 rfl ?_
            refine V_iald (pc := 81) C (r1.length) htn (by omega) (Nat.le_of_ble_eq_true rfl) (wg hG (by decide) (by decide)) wF_15 dX4_worth_81 ?_
            refine V_if_ne (tgt := 89) (pc := 82) C dX4_worth_82 (by decide) (fun h_82 => ?_) (fun h_82 => ?_)
            · refine V_iconst (v := 0) (pc := 89) C dX4_worth_89 (by decide) ?_
              refine V_iast (pc := 90) C (r1.length) htn (by omega) (Nat.le_of_ble_eq_true rfl) (wg hG (by decide) (by decide)) (fun _ => wF_15) dX4_worth_90 ?_
              rw [mset_mrow]
              refine V_goto (tgt := 161) (pc := 91) C dX4_worth_91 (by decide) ?_
              refine Vs_iinc (v := nI (i + 1)) (lv' := [(0, _), (1, _), (2, _), (3, _), (4, _), (5, _), (6, _)]) (pc := 161) C 5 dX4_worth_161 rfl (by decide) rfl (nI_i1 (i)) rfl ?_
              refine V_goto (tgt := 6) (pc := 164) C dX4_worth_164 (by decide) ?_
              refine V_loc (lv' := [(0, _), (1, _), (2, _), (3, _), (4, _), (5, _)]) [0, 1, 2, 3, 4, 5] rfl ?_
              rw [mrow_self, hsr.1] at h_82
              refine ih (i + 1) (0 :: r1) _ _ (by omega) (by simp; omega) htop ⟨by simp [upd], xSR_upd (Nat.le_refl _) hsr.2⟩ ?_
              simpa [xStep, hs6, h_66, h_82, bI] using hq2
            · refine V_iconst (v := 1) (pc := 85) C dX4_worth_85 (by decide) ?_
              refine V_goto (tgt := 90) (pc := 86) C dX4_worth_86 (by decide) ?_
              refine V_iast (pc := 90) C (r1.length) htn (by omega) (Nat.le_of_ble_eq_true rfl) (wg hG (by decide) (by decide)) (fun _ => wF_15) dX4_worth_90 ?_
              rw [mset_mrow]
              refine V_goto (tgt := 161) (pc := 91) C dX4_worth_91 (by decide) ?_
              refine Vs_iinc (v := nI (i + 1)) (lv' := [(0, _), (1, _), (2, _), (3, _), (4, _), (5, _), (6, _)]) (pc := 161) C 5 dX4_worth_161 rfl (by decide) rfl (nI_i1 (i)) rfl ?_
              refine V_goto (tgt := 6) (pc := 164) C dX4_worth_164 (by decide) ?_
              refine V_loc (lv' := [(0, _), (1, _), (2, _), (3, _), (4, _), (5, _)]) [0, 1, 2, 3, 4, 5] rfl ?_
              rw [mrow_self, hsr.1] at h_82
              refine ih (i + 1) (1 :: r1) _ _ (by omega) (by simp; omega) htop ⟨by simp [upd], xSR_upd (Nat.le_refl _) hsr.2⟩ ?_
              simpa [xStep, hs6, h_66, h_82, bI] using hq2
      · have hs6 : -6 ≤ q := Int32.not_lt.mp h_22
        have htop1 : top + Int32.ofInt 1 = nI st.length := top_u htop
        refine Vs_iinc (lv' := [(0, _), (1, _), (2, _), (3, _), (4, _), (5, _), (6, _)]) (pc := 25) C 4 dX4_worth_25 rfl (by decide) rfl rfl rfl ?_
        refine V_aload_n (pc := 28) C 0 dX4_worth_28 rfl rfl ?_
        refine get_X4_15 (pc := 29) C (wg hG (by decide) (by decide)) dX4_worth_29 ?_
        refine V_iload (pc := 32) C 4 dX4_worth_32 rfl ?_
        refine V_iload (pc := 34) C 6 dX4_worth_34 rfl ?_
        refine V_if_lt (tgt := 44) (pc := 36) C dX4_worth_36 (by decide) (fun h_36 => ?_) (fun h_36 => ?_)
        · obtain ⟨j, hj, ej⟩ := ix_name h_22 h_36
          refine V_aload_n (pc := 44) C 0 dX4_worth_44 rfl rfl ?_
          refine get_X4_9 (pc := 45) C (wg hG (by decide) (by decide)) dX4_worth_45 ?_
          refine V_iconst (v := -1) (pc := 48) C dX4_worth_48 (by decide) ?_
          refine V_iload (pc := 49) C 6 dX4_worth_49 rfl ?_
          refine V_isub (pc := 51) C dX4_worth_51 ?_
          refine V_iald (pc := 52) C (j) ej hj (Nat.le_of_ble_eq_true rfl) (wg hG (by decide) (by decide)) wF_14 dX4_worth_52 ?_
          refine V_iast (pc := 53) C (st.length) htop1 (by omega) (Nat.le_of_ble_eq_true rfl) (wg hG (by decide) (by decide)) (fun _ => wF_15) dX4_worth_53 ?_
          rw [mset_mrow, mrow_ne _ _ _ _ (by omega)]
          refine V_goto (tgt := 161) (pc := 54) C dX4_worth_54 (by decide) ?_
          refine Vs_iinc (v := nI (i + 1)) (lv' := [(0, _), (1, _), (2, _), (3, _), (4, _), (5, _), (6, _)]) (pc := 161) C 5 dX4_worth_161 rfl (by decide) rfl (nI_i1 (i)) rfl ?_
          refine V_goto (tgt := 6) (pc := 164) C dX4_worth_164 (by decide) ?_
          refine V_loc (lv' := [(0, _), (1, _), (2, _), (3, _), (4, _), (5, _)]) [0, 1, 2, 3, 4, 5] rfl ?_
          refine ih (i + 1) (M0.1 14 0 j :: st) _ _ (by omega) (by simp; omega) (by rw [htop1]; exact nI_tm (by omega)) ⟨by simp [upd], xSR_upd (Nat.le_refl _) hsr⟩ ?_
          have ej2 : (-1 - q).toNatClampNeg = j := by rw [ej]; exact nI_clamp (by omega)
          simpa [xStep, hs6, h_36, ej2] using hq2
        · refine V_iload (pc := 39) C 6 dX4_worth_39 rfl ?_
          refine V_goto (tgt := 53) (pc := 41) C dX4_worth_41 (by decide) ?_
          refine V_iast (pc := 53) C (st.length) htop1 (by omega) (Nat.le_of_ble_eq_true rfl) (wg hG (by decide) (by decide)) (fun _ => wF_15) dX4_worth_53 ?_
          rw [mset_mrow]
          refine V_goto (tgt := 161) (pc := 54) C dX4_worth_54 (by decide) ?_
          refine Vs_iinc (v := nI (i + 1)) (lv' := [(0, _), (1, _), (2, _), (3, _), (4, _), (5, _), (6, _)]) (pc := 161) C 5 dX4_worth_161 rfl (by decide) rfl (nI_i1 (i)) rfl ?_
          refine V_goto (tgt := 6) (pc := 164) C dX4_worth_164 (by decide) ?_
          refine V_loc (lv' := [(0, _), (1, _), (2, _), (3, _), (4, _), (5, _)]) [0, 1, 2, 3, 4, 5] rfl ?_
          refine ih (i + 1) (q :: st) _ _ (by omega) (by simp; omega) (by rw [htop1]; exact nI_tm (by omega)) ⟨by simp [upd], xSR_upd (Nat.le_refl _) hsr⟩ ?_
          simp only [xStep, if_pos hs6, if_neg h_36] at hq2
          exact hq2
theorem c_X4_worth (hG : 30 ≤ G) (hd : 2 ≤ d) (M : wS) {t : Nat} (ht : t < 6) {a b : Nat} (hab : a ≤ b) (hb : b ≤ 160) : Ctr l D cy ad G d yX4_worth cX4_worth 7 (some .int) [.ref (ad 13 0), .ref (ad 8 t), .int (nI a), .int (nI b)] M (rI fun x M' => (∃ f, M' = mrow M 15 0 f) ∧ x = xVal (M.1 14 0) (M.1 8 t) a (b - a)) := by
  refine Ctr.of (lv0 := [(0, _), (1, _), (2, _), (3, _)]) (by decide) (Nat.le_of_ble_eq_true rfl) rfl ?_
  intro p e s m args below meth c C hr hlk _
  have C : CX p s m args c cX4_worth 7 "CostsAge$Scene" D cy ad G (wA ad G) (Rm d) d 0 0 := C
  refine V_iconst (v := -1) (pc := 0) C dX4_worth_0 (by decide) ?_
  refine Vs_istore (lv' := [(0, _), (1, _), (2, _), (3, _), (4, _)]) (pc := 1) C dX4_worth_1 (by decide) rfl rfl ?_
  refine V_iload_n (pc := 3) C 2 dX4_worth_3 rfl rfl ?_
  refine Vs_istore (lv' := [(0, _), (1, _), (2, _), (3, _), (4, _), (5, _)]) (pc := 4) C dX4_worth_4 (by decide) rfl rfl ?_
  refine V_mem (mrow_id M 15 0) ?_
  exact lp_X4_worth C hr hlk hG (by omega) ht _ hb M _ (b - a) a [] _ _ (by omega) (by simp; omega) (by decide) trivial (fun f => ⟨⟨f, rfl⟩, rfl⟩)
end S14
