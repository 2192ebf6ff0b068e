theorem mset_mrow (M : wS) (g i k : Nat) (f : Nat → Int32) (x : Int32) : mset (mrow M g i f) g i k x = mrow M g i (upd f k x) := by
  refine Prod.ext ?_ rfl
  funext g' i'
  by_cases h : g' = g ∧ i' = i
  · simp [mset, mrow, h]
  · simp [mset, mrow, h]
theorem mrow_mrow (M : wS) (g i : Nat) (f f2 : Nat → Int32) : mrow (mrow M g i f) g i f2 = mrow M g i f2 := by
  refine Prod.ext ?_ rfl
  funext g' i'
  by_cases h : g' = g ∧ i' = i
  · simp [mrow, h]
  · simp [mrow, h]
theorem mrow_id (M : wS) (g i : Nat) : mrow M g i (M.1 g i) = M := by
  refine Prod.ext ?_ rfl
  funext g' i'
  by_cases h : g' = g ∧ i' = i
  · obtain ⟨rfl, rfl⟩ := h
    simp [mrow]
  · simp [mrow, h]
theorem ix_name {q : Int32} (h1 : ¬ q < -6) (h2 : q < 0) : ∃ j, j < 6 ∧ -1 - q = nI j := by
  refine ix_of (n := 6) ?_ ?_ (by decide)
  · (simp only [i32_eq, Int32.le_iff_toInt_le, Int32.lt_iff_toInt_lt, Int32.not_le, Int32.not_lt, Int32.toInt_add, Int32.toInt_sub, Int32.toInt_mul, Int32.toInt_neg, Int32.toInt_div, tdv2, tdv4, tdv10, tdv52, tdv100, nI_T, apply_ite Int32.toInt, Int.bmod, Int32.reduceToInt] at *; omega)
  · (simp only [i32_eq, Int32.le_iff_toInt_le, Int32.lt_iff_toInt_lt, Int32.not_le, Int32.not_lt, Int32.toInt_add, Int32.toInt_sub, Int32.toInt_mul, Int32.toInt_neg, Int32.toInt_div, tdv2, tdv4, tdv10, tdv52, tdv100, nI_T, apply_ite Int32.toInt, Int.bmod, Int32.reduceToInt] at *; omega)
theorem top_0 {top : Int32} {n : Nat} (h : top.toInt = (n : Int) - 1) : top < 0 ↔ n = 0 := by (simp only [i32_eq, Int32.le_iff_toInt_le, Int32.lt_iff_toInt_lt, Int32.not_le, Int32.not_lt, Int32.toInt_add, Int32.toInt_sub, Int32.toInt_mul, Int32.toInt_neg, Int32.toInt_div, tdv2, tdv4, tdv10, tdv52, tdv100, nI_T, apply_ite Int32.toInt, Int.bmod, Int32.reduceToInt] at *; omega)
theorem top_1 {top : Int32} {n : Nat} (h : top.toInt = (n : Int) - 1) : top < 1 ↔ n ≤ 1 := by (simp only [i32_eq, Int32.le_iff_toInt_le, Int32.lt_iff_toInt_lt, Int32.not_le, Int32.not_lt, Int32.toInt_add, Int32.toInt_sub, Int32.toInt_mul, Int32.toInt_neg, Int32.toInt_div, tdv2, tdv4, tdv10, tdv52, tdv100, nI_T, apply_ite Int32.toInt, Int.bmod, Int32.reduceToInt] at *; omega)
theorem top_i {top : Int32} {n : Nat} (h : top.toInt = (n : Int) - 1) (hn : 1 ≤ n) : top = nI (n - 1) := by
  have := Int32.toInt_lt top
  (simp only [i32_eq, Int32.le_iff_toInt_le, Int32.lt_iff_toInt_lt, Int32.not_le, Int32.not_lt, Int32.toInt_add, Int32.toInt_sub, Int32.toInt_mul, Int32.toInt_neg, Int32.toInt_div, tdv2, tdv4, tdv10, tdv52, tdv100, nI_T, apply_ite Int32.toInt, Int.bmod, Int32.reduceToInt] at *; omega)
theorem top_u {top : Int32} {n : Nat} (h : top.toInt = (n : Int) - 1) : top + Int32.ofInt 1 = nI n := by
  have h1 : Int32.ofInt 1 = 1 := by decide
  have := Int32.toInt_lt top
  rw [h1]
  (simp only [i32_eq, Int32.le_iff_toInt_le, Int32.lt_iff_toInt_lt, Int32.not_le, Int32.not_lt, Int32.toInt_add, Int32.toInt_sub, Int32.toInt_mul, Int32.toInt_neg, Int32.toInt_div, tdv2, tdv4, tdv10, tdv52, tdv100, nI_T, apply_ite Int32.toInt, Int.bmod, Int32.reduceToInt] at *; omega)
theorem top_d {top : Int32} {n : Nat} (h : top.toInt = (n : Int) - 1) (hn : 2 ≤ n) : top + Int32.ofInt (-1) = nI (n - 2) := by
  have h1 : Int32.ofInt (-1) = -1 := by decide
  have := Int32.toInt_lt top
  rw [h1]
  (simp only [i32_eq, Int32.le_iff_toInt_le, Int32.lt_iff_toInt_lt, Int32.not_le, Int32.not_lt, Int32.toInt_add, Int32.toInt_sub, Int32.toInt_mul, Int32.toInt_neg, Int32.toInt_div, tdv2, tdv4, tdv10, tdv52, tdv100, nI_T, apply_ite Int32.toInt, Int.bmod, Int32.reduceToInt] at *; omega)
theorem nI_tm {n : Nat} (h : n < 2 ^ 31) : (nI n).toInt = ((n + 1 : Nat) : Int) - 1 := by
  rw [nI_toInt h]
  omega
theorem lt_m8 {q : Int32} (h1 : q < -6) (h2 : ¬ q = -7) (h3 : ¬ q = -8) : q < -8 := by (simp only [i32_eq, Int32.le_iff_toInt_le, Int32.lt_iff_toInt_lt, Int32.not_le, Int32.not_lt, Int32.toInt_add, Int32.toInt_sub, Int32.toInt_mul, Int32.toInt_neg, Int32.toInt_div, tdv2, tdv4, tdv10, tdv52, tdv100, nI_T, apply_ite Int32.toInt, Int.bmod, Int32.reduceToInt] at *; omega)
theorem top_g {top : Int32} {n : Nat} (h : top.toInt = (n : Int) - 1) (hn : n < 160) : ¬ (160 : Int32) ≤ top + 1 := by
  intro hx
  (simp only [i32_eq, Int32.le_iff_toInt_le, Int32.lt_iff_toInt_lt, Int32.not_le, Int32.not_lt, Int32.toInt_add, Int32.toInt_sub, Int32.toInt_mul, Int32.toInt_neg, Int32.toInt_div, tdv2, tdv4, tdv10, tdv52, tdv100, nI_T, apply_ite Int32.toInt, Int.bmod, Int32.reduceToInt] at *; omega)
section S14
variable {l : Launch} {D : va_G} {cy : Nat → ClassId} {ad : Nat → Nat → Nat} {G d : Nat}
set_option maxHeartbeats 4000000 in
theorem lp_X4_worth {p : Program} {e : Env} {s : State} {m : MethodId} {args : Array Value} {below : List Frame} {meth : Method} {c : Code} (C : CX p s m args c cX4_worth 7 "CostsAge$Scene" D cy ad G (wA ad G) (Rm d) d 0 0) (hr : meth.sig.returnType = (some .int)) (hlk : meth.locks = false) (hG : 30 ≤ G) (hd : 1 ≤ d) {t : Nat} (ht : t < 6) (va : Int32) {b : Nat} (hb : b ≤ 160) (M0 : wS) (Qf : Int32 → wS → Prop) : ∀ (n i : Nat) (st : List Int32) (top : Int32) (f : Nat → Int32), i + n = b → st.length + n ≤ 160 → top.toInt = (st.length : Int) - 1 → xSR f st → (∀ f', Qf (xTop (xRun (M0.1 14 0) (M0.1 8 t) i n st)) (mrow M0 15 0 f')) → V p l e (Rm d) s m args below meth c 7 D cy ad G (wA ad G) 0 0 (MQ below (wQ D cy ad G (rI Qf)) args s 0 0 (wA ad G)) 6 [(0, .ref (ad 13 0)), (1, .ref (ad 8 t)), (2, .int va), (3, .int (nI b)), (4, .int top), (5, .int (nI i))] [] (mrow M0 15 0 f) := by
  intro n
  induction n with
  | zero =>
    intro i st top f hi hl htop hsr hq
    refine V_iload (pc := 6) C 5 dX4_worth_6 rfl ?_
    refine V_iload_n (pc := 8) C 3 dX4_worth_8 rfl rfl ?_
    refine V_icmp_ge (tgt := 186) (pc := 9) C dX4_worth_9 (by decide) (fun h_9 => ?_) (fun h_9 => ?_)
    · refine V_iload (pc := 186) C 4 dX4_worth_186 rfl ?_
      refine V_if_ge (tgt := 195) (pc := 188) C dX4_worth_188 (by decide) (fun h_188 => ?_) (fun h_188 => ?_)
      · have hx : ∃ x1 r1, st = x1 :: r1 := by
          match st, htop with
          | [], htop => exact absurd ((top_0 htop).mpr rfl) (Int32.not_lt.mpr h_188)
          | x1 :: r1, _ => exact ⟨x1, r1, rfl⟩
        obtain ⟨x1, r1, rfl⟩ := hx
        simp only [List.length_cons] at hl htop
        refine V_aload_n (pc := 195) C 0 dX4_worth_195 rfl rfl ?_
        refine get_X4_15 (pc := 196) C (wg hG (by decide) (by decide)) dX4_worth_196 ?_
        refine V_iload (pc := 199) C 4 dX4_worth_199 rfl ?_
        refine V_iald (pc := 201) C (r1.length) (top_i htop (by omega)) (by omega) (Nat.le_of_ble_eq_true rfl) (wg hG (by decide) (by decide)) wF_15 dX4_worth_201 ?_
        refine V_iret (pc := 202) C hr hlk dX4_worth_202 ⟨_, rfl, ?_⟩
        rw [mrow_self, hsr.1]
        exact hq f
      · have hx : st = [] := by
          match st, htop with
          | [], _ => rfl
          | x1 :: r1, htop => exact absurd ((top_0 htop).mp (Int32.not_le.mp h_188)) (by simp)
        subst hx
        refine V_iconst (v := 0) (pc := 191) C dX4_worth_191 (by decide) ?_
        refine V_goto (tgt := 202) (pc := 192) C dX4_worth_192 (by decide) ?_
        refine V_iret (pc := 202) C hr hlk dX4_worth_202 ⟨_, rfl, ?_⟩
        exact hq f
    · exact absurd (nI_le (by omega) (by omega)) h_9
  | succ n ih =>
    intro i st top f hi hl htop hsr hq
    have hcode : (mrow M0 15 0 f).1 8 t i = M0.1 8 t i := by rw [mrow_ne _ _ _ _ (by omega)]
    have hq2 : ∀ f', Qf (xTop (xRun (M0.1 14 0) (M0.1 8 t) (i + 1) n (xStep (M0.1 14 0) (M0.1 8 t i) st))) (mrow M0 15 0 f') := hq
    refine V_iload (pc := 6) C 5 dX4_worth_6 rfl ?_
    refine V_iload_n (pc := 8) C 3 dX4_worth_8 rfl rfl ?_
    refine V_icmp_ge (tgt := 186) (pc := 9) C dX4_worth_9 (by decide) (fun h_9 => ?_) (fun h_9 => ?_)
    · exact absurd h_9 (nI_ge (by omega) (by omega))
    · refine V_iload (pc := 12) C 5 dX4_worth_12 rfl ?_
      refine V_aload_n (pc := 14) C 1 dX4_worth_14 rfl rfl ?_
      refine V_alen (v := 160) (pc := 15) C (wg hG (by decide) (show t < 6 from ht)) wF_8 (by decide) dX4_worth_15 ?_
      refine V_icmp_ge (tgt := 186) (pc := 16) C dX4_worth_16 (by decide) (fun h_16 => ?_) (fun h_16 => ?_)
      · exact absurd h_16 (nI_ge (b := 160) (by omega) (by omega))
      · refine V_iload (pc := 19) C 4 dX4_worth_19 rfl ?_
        refine V_iconst (v := 1) (pc := 21) C dX4_worth_21 (by decide) ?_
        refine V_iadd (pc := 22) C dX4_worth_22 ?_
        refine V_aload_n (pc := 23) C 0 dX4_worth_23 rfl rfl ?_
        refine get_X4_15 (pc := 24) C (wg hG (by decide) (by decide)) dX4_worth_24 ?_
        refine V_alen (v := 160) (pc := 27) C (wg hG (by decide) (by decide)) wF_15 (by decide) dX4_worth_27 ?_
        refine V_icmp_ge (tgt := 186) (pc := 28) C dX4_worth_28 (by decide) (fun h_28 => ?_) (fun h_28 => ?_)
        · exact absurd h_28 (top_g htop (by omega))
        · refine V_aload_n (pc := 31) C 1 dX4_worth_31 rfl rfl ?_
          refine V_iload (pc := 32) C 5 dX4_worth_32 rfl ?_
          refine V_iald (pc := 34) C (i) rfl (by omega) (Nat.le_of_ble_eq_true rfl) (wg hG (by decide) (show t < 6 from ht)) wF_8 dX4_worth_34 ?_
          rw [hcode]
          generalize M0.1 8 t i = q at hq2 ⊢
          refine Vs_istore (lv' := [(0, _), (1, _), (2, _), (3, _), (4, _), (5, _), (6, _)]) (pc := 35) C dX4_worth_35 (by decide) rfl rfl ?_
          refine V_iload (pc := 37) C 6 dX4_worth_37 rfl ?_
          refine V_bipush (v := -6) (pc := 39) C dX4_worth_39 (by decide) ?_
          refine V_icmp_lt (tgt := 76) (pc := 41) C dX4_worth_41 (by decide) (fun h_41 => ?_) (fun h_41 => ?_)
          · have hs6 : ¬ -6 ≤ q := Int32.not_le.mpr h_41
            refine V_iload (pc := 76) C 4 dX4_worth_76 rfl ?_
            refine V_if_lt (tgt := 113) (pc := 78) C dX4_worth_78 (by decide) (fun h_78 => ?_) (fun h_78 => ?_)
            · have hx : st = [] := by
                match st, htop with
                | [], _ => rfl
                | x1 :: r1, htop => exact absurd ((top_0 htop).mp h_78) (by simp)
              subst hx
              refine V_iload (pc := 113) C 4 dX4_worth_113 rfl ?_
              refine V_if_lt (tgt := 143) (pc := 115) C dX4_worth_115 (by decide) (fun h_115 => ?_) (fun h_115 => ?_)
              · refine V_iload (pc := 143) C 4 dX4_worth_143 rfl ?_
                refine V_iconst (v := 1) (pc := 145) C dX4_worth_145 (by decide) ?_
                refine V_icmp_lt (tgt := 180) (pc := 146) C dX4_worth_146 (by decide) (fun h_146 => ?_) (fun h_146 => ?_)
                · refine Vs_iinc (v := nI (i + 1)) (lv' := [(0, _), (1, _), (2, _), (3, _), (4, _), (5, _), (6, _)]) (pc := 180) C 5 dX4_worth_180 rfl (by decide) rfl (nI_i1 (i)) rfl ?_
                  refine V_goto (tgt := 6) (pc := 183) C dX4_worth_183 (by decide) ?_
                  refine V_loc (lv' := [(0, _), (1, _), (2, _), (3, _), (4, _), (5, _)]) [0, 1, 2, 3, 4, 5] rfl ?_
                  exact ih (i + 1) [] top f (by omega) (by simp at hl ⊢; omega) htop trivial (by simpa [xStep, hs6] using hq2)
                · exact absurd ((top_1 htop).mpr (by simp)) h_146
              · exact absurd h_78 h_115
            · have hx : ∃ x1 r1, st = x1 :: r1 := by
                match st, htop with
                | [], htop => exact absurd ((top_0 htop).mpr rfl) h_78
                | x1 :: r1, _ => exact ⟨x1, r1, rfl⟩
              obtain ⟨x1, r1, rfl⟩ := hx
              have hl1 := hl
              have htop1 := htop
              simp only [List.length_cons] at hl1 htop1
              have htn : top = nI r1.length := top_i htop1 (by omega)
              refine V_iload (pc := 81) C 6 dX4_worth_81 rfl ?_
              refine V_bipush (v := -7) (pc := 83) C dX4_worth_83 (by decide) ?_
              refine V_icmp_ne (tgt := 113) (pc := 85) C dX4_worth_85 (by decide) (fun h_85 => ?_) (fun h_85 => ?_)
              · refine V_iload (pc := 113) C 4 dX4_worth_113 rfl ?_
                refine V_if_lt (tgt := 143) (pc := 115) C dX4_worth_115 (by decide) (fun h_115 => ?_) (fun h_115 => ?_)
                · exact absurd h_115 h_78
                · refine V_iload (pc := 118) C 6 dX4_worth_118 rfl ?_
                  refine V_bipush (v := -8) (pc := 120) C dX4_worth_120 (by decide) ?_
                  refine V_icmp_ne (tgt := 143) (pc := 122) C dX4_worth_122 (by decide) (fun h_122 => ?_) (fun h_122 => ?_)
                  · refine V_iload (pc := 143) C 4 dX4_worth_143 rfl ?_
                    refine V_iconst (v := 1) (pc := 145) C dX4_worth_145 (by decide) ?_
                    refine V_icmp_lt (tgt := 180) (pc := 146) C dX4_worth_146 (by decide) (fun h_146 => ?_) (fun h_146 => ?_)
                    · have hx : r1 = [] := by
                        match r1, htop1 with
                        | [], _ => rfl
                        | x2 :: r2, htop1 => exact absurd ((top_1 htop1).mp h_146) (by simp)
                      subst hx
                      refine Vs_iinc (v := nI (i + 1)) (lv' := [(0, _), (1, _), (2, _), (3, _), (4, _), (5, _), (6, _)]) (pc := 180) C 5 dX4_worth_180 rfl (by decide) rfl (nI_i1 (i)) rfl ?_
                      refine V_goto (tgt := 6) (pc := 183) C dX4_worth_183 (by decide) ?_
                      refine V_loc (lv' := [(0, _), (1, _), (2, _), (3, _), (4, _), (5, _)]) [0, 1, 2, 3, 4, 5] rfl ?_
                      exact ih (i + 1) [x1] top f (by omega) (by simp at hl ⊢; omega) htop hsr (by simpa [xStep, hs6, h_85, h_122] using hq2)
                    · have hx : ∃ x2 r2, r1 = x2 :: r2 := by
                        match r1, htop1 with
                        | [], htop1 => exact absurd ((top_1 htop1).mpr (by simp)) h_146
                        | x2 :: r2, _ => exact ⟨x2, r2, rfl⟩
                      obtain ⟨x2, r2, rfl⟩ := hx
                      simp only [List.length_cons] at hl1 htop1
                      have htm : top + Int32.ofInt (-1) = nI r2.length := top_d htop1 (by omega)
                      refine Vs_iinc (lv' := [(0, _), (1, _), (2, _), (3, _), (4, _), (5, _), (6, _)]) (pc := 149) C 4 dX4_worth_149 rfl (by decide) rfl rfl rfl ?_
                      refine V_aload_n (pc := 152) C 0 dX4_worth_152 rfl rfl ?_
                      refine get_X4_15 (pc := 153) C (wg hG (by decide) (by decide)) dX4_worth_153 ?_
                      refine V_iload (pc := 156) C 4 dX4_worth_156 rfl ?_
                      refine V_iload (pc := 158) C 6 dX4_worth_158 rfl ?_
                      refine V_aload_n (pc := 160) C 0 dX4_worth_160 rfl rfl ?_
                      refine get_X4_15 (pc := 161) C (wg hG (by decide) (by decide)) dX4_worth_161 ?_
                      refine V_iload (pc := 164) C 4 dX4_worth_164 rfl ?_
                      refine V_iald (pc := 166) C (r2.length) htm (by omega) (Nat.le_of_ble_eq_true rfl) (wg hG (by decide) (by decide)) wF_15 dX4_worth_166 ?_
                      refine V_aload_n (pc := 167) C 0 dX4_worth_167 rfl rfl ?_
                      refine get_X4_15 (pc := 168) C (wg hG (by decide) (by decide)) dX4_worth_168 ?_
                      refine V_iload (pc := 171) C 4 dX4_worth_171 rfl ?_
                      refine V_iconst (v := 1) (pc := 173) C dX4_worth_173 (by decide) ?_
                      refine V_iadd (pc := 174) C dX4_worth_174 ?_
                      refine V_iald (pc := 175) C (r2.length + 1) (by rw [htm]; exact nI_1 _) (by omega) (Nat.le_of_ble_eq_true rfl) (wg hG (by decide) (by decide)) wF_15 dX4_worth_175 ?_
                      refine call_X4_22 (pc := 176) C (c_X4_joined (d := d - 1) _ q _ _ (lt_m8 h_41 h_85 h_122)) (by omega) (Nat.le_of_ble_eq_true rfl) dX4_worth_176 (fun x_176 M_176 h_176 => ?_)
                      obtain ⟨e_176, rfl⟩ := h_176
                      have e_176 := e_176.symm
                      subst e_176
                      refine V_iast (pc := 179) C (r2.length) htm (by omega) (Nat.le_of_ble_eq_true rfl) (wg hG (by decide) (by decide)) (fun _ => wF_15) dX4_worth_179 ?_
                      rw [mset_mrow, mrow_self]
                      refine Vs_iinc (v := nI (i + 1)) (lv' := [(0, _), (1, _), (2, _), (3, _), (4, _), (5, _), (6, _)]) (pc := 180) C 5 dX4_worth_180 rfl (by decide) rfl (nI_i1 (i)) rfl ?_
                      refine V_goto (tgt := 6) (pc := 183) C dX4_worth_183 (by decide) ?_
                      refine V_loc (lv' := [(0, _), (1, _), (2, _), (3, _), (4, _), (5, _)]) [0, 1, 2, 3, 4, 5] rfl ?_
                      refine ih (i + 1) (xJoin q x2 x1 :: r2) _ _ (by omega) (by simp; omega) (by rw [htm]; exact nI_tm (by omega)) ⟨?_, xSR_upd (Nat.le_refl _) hsr.2.2⟩ ?_
                      · have w1 : f (r2.length + 1) = x1 := hsr.1
                        have w2 : f r2.length = x2 := hsr.2.1
                        simp [upd, w1, w2]
                      · simpa [xStep, hs6, h_85, h_122] using hq2
                  · refine V_aload_n (pc := 125) C 0 dX4_worth_125 rfl rfl ?_
                    refine get_X4_15 (pc := 126) C (wg hG (by decide) (by decide)) dX4_worth_126 ?_
                    refine V_iload (pc := 129) C 4 dX4_worth_129 rfl ?_
                    refine V_aload_n (pc := 131) C 0 dX4_worth_131 rfl rfl ?_
                    refine get_X4_15 (pc := 132) C (wg hG (by decide) (by decide)) dX4_worth_132 ?_
                    refine V_iload (pc := 135) C 4 dX4_worth_135 rfl ?_
                    refine V_iald (pc := 137) C (r1.length) htn (by omega) (Nat.le_of_ble_eq_true rfl) (wg hG (by decide) (by decide)) wF_15 dX4_worth_137 ?_
                    refine V_ineg (pc := 138) C dX4_worth_138 ?_
                    refine V_iast (pc := 139) C (r1.length) htn (by omega) (Nat.le_of_ble_eq_true rfl) (wg hG (by decide) (by decide)) (fun _ => wF_15) dX4_worth_139 ?_
                    rw [mset_mrow]
                    refine V_goto (tgt := 180) (pc := 140) C dX4_worth_140 (by decide) ?_
                    refine Vs_iinc (v := nI (i + 1)) (lv' := [(0, _), (1, _), (2, _), (3, _), (4, _), (5, _), (6, _)]) (pc := 180) C 5 dX4_worth_180 rfl (by decide) rfl (nI_i1 (i)) rfl ?_
                    refine V_goto (tgt := 6) (pc := 183) C dX4_worth_183 (by decide) ?_
                    refine V_loc (lv' := [(0, _), (1, _), (2, _), (3, _), (4, _), (5, _)]) [0, 1, 2, 3, 4, 5] rfl ?_
                    refine ih (i + 1) ((-x1) :: r1) _ _ (by omega) (by simp; omega) htop ⟨by simp [upd, hsr.1, mrow_self], xSR_upd (Nat.le_refl _) hsr.2⟩ ?_
                    simpa [xStep, hs6, h_122] using hq2
              · refine V_aload_n (pc := 88) C 0 dX4_worth_88 rfl rfl ?_
                refine get_X4_15 (pc := 89) C (wg hG (by decide) (by decide)) dX4_worth_89 ?_
                refine V_iload (pc := 92) C 4 dX4_worth_92 rfl ?_
                refine V_aload_n (pc := 94) C 0 dX4_worth_94 rfl rfl ?_
                refine get_X4_15 (pc := 95) C (wg hG (by decide) (by decide)) dX4_worth_95 ?_
                refine V_iload (pc := 98) C 4 dX4_worth_98 rfl ?_
                refine V_iald (pc := 100) C (r1.length) htn (by omega) (Nat.le_of_ble_eq_true rfl) (wg hG (by decide) (by decide)) wF_15 dX4_worth_100 ?_
                refine V_if_ne (tgt := 108) (pc := 101) C dX4_worth_101 (by decide) (fun h_101 => ?_) (fun h_101 => ?_)
                · refine V_iconst (v := 0) (pc := 108) C dX4_worth_108 (by decide) ?_
                  refine V_iast (pc := 109) C (r1.length) htn (by omega) (Nat.le_of_ble_eq_true rfl) (wg hG (by decide) (by decide)) (fun _ => wF_15) dX4_worth_109 ?_
                  rw [mset_mrow]
                  refine V_goto (tgt := 180) (pc := 110) C dX4_worth_110 (by decide) ?_
                  refine Vs_iinc (v := nI (i + 1)) (lv' := [(0, _), (1, _), (2, _), (3, _), (4, _), (5, _), (6, _)]) (pc := 180) C 5 dX4_worth_180 rfl (by decide) rfl (nI_i1 (i)) rfl ?_
                  refine V_goto (tgt := 6) (pc := 183) C dX4_worth_183 (by decide) ?_
                  refine V_loc (lv' := [(0, _), (1, _), (2, _), (3, _), (4, _), (5, _)]) [0, 1, 2, 3, 4, 5] rfl ?_
                  rw [mrow_self, hsr.1] at h_101
                  refine ih (i + 1) (0 :: r1) _ _ (by omega) (by simp; omega) htop ⟨by simp [upd], xSR_upd (Nat.le_refl _) hsr.2⟩ ?_
                  simpa [xStep, hs6, h_85, h_101, bI] using hq2
                · refine V_iconst (v := 1) (pc := 104) C dX4_worth_104 (by decide) ?_
                  refine V_goto (tgt := 109) (pc := 105) C dX4_worth_105 (by decide) ?_
                  refine V_iast (pc := 109) C (r1.length) htn (by omega) (Nat.le_of_ble_eq_true rfl) (wg hG (by decide) (by decide)) (fun _ => wF_15) dX4_worth_109 ?_
                  rw [mset_mrow]
                  refine V_goto (tgt := 180) (pc := 110) C dX4_worth_110 (by decide) ?_
                  refine Vs_iinc (v := nI (i + 1)) (lv' := [(0, _), (1, _), (2, _), (3, _), (4, _), (5, _), (6, _)]) (pc := 180) C 5 dX4_worth_180 rfl (by decide) rfl (nI_i1 (i)) rfl ?_
                  refine V_goto (tgt := 6) (pc := 183) C dX4_worth_183 (by decide) ?_
                  refine V_loc (lv' := [(0, _), (1, _), (2, _), (3, _), (4, _), (5, _)]) [0, 1, 2, 3, 4, 5] rfl ?_
                  rw [mrow_self, hsr.1] at h_101
                  refine ih (i + 1) (1 :: r1) _ _ (by omega) (by simp; omega) htop ⟨by simp [upd], xSR_upd (Nat.le_refl _) hsr.2⟩ ?_
                  simpa [xStep, hs6, h_85, h_101, bI] using hq2
          · have hs6 : -6 ≤ q := Int32.not_lt.mp h_41
            have htop1 : top + Int32.ofInt 1 = nI st.length := top_u htop
            refine Vs_iinc (lv' := [(0, _), (1, _), (2, _), (3, _), (4, _), (5, _), (6, _)]) (pc := 44) C 4 dX4_worth_44 rfl (by decide) rfl rfl rfl ?_
            refine V_aload_n (pc := 47) C 0 dX4_worth_47 rfl rfl ?_
            refine get_X4_15 (pc := 48) C (wg hG (by decide) (by decide)) dX4_worth_48 ?_
            refine V_iload (pc := 51) C 4 dX4_worth_51 rfl ?_
            refine V_iload (pc := 53) C 6 dX4_worth_53 rfl ?_
            refine V_if_lt (tgt := 63) (pc := 55) C dX4_worth_55 (by decide) (fun h_55 => ?_) (fun h_55 => ?_)
            · obtain ⟨j, hj, ej⟩ := ix_name h_41 h_55
              refine V_aload_n (pc := 63) C 0 dX4_worth_63 rfl rfl ?_
              refine get_X4_9 (pc := 64) C (wg hG (by decide) (by decide)) dX4_worth_64 ?_
              refine V_iconst (v := -1) (pc := 67) C dX4_worth_67 (by decide) ?_
              refine V_iload (pc := 68) C 6 dX4_worth_68 rfl ?_
              refine V_isub (pc := 70) C dX4_worth_70 ?_
              refine V_iald (pc := 71) C (j) ej hj (Nat.le_of_ble_eq_true rfl) (wg hG (by decide) (by decide)) wF_14 dX4_worth_71 ?_
              refine V_iast (pc := 72) C (st.length) htop1 (by omega) (Nat.le_of_ble_eq_true rfl) (wg hG (by decide) (by decide)) (fun _ => wF_15) dX4_worth_72 ?_
              rw [mset_mrow, mrow_ne _ _ _ _ (by omega)]
              refine V_goto (tgt := 180) (pc := 73) C dX4_worth_73 (by decide) ?_
              refine Vs_iinc (v := nI (i + 1)) (lv' := [(0, _), (1, _), (2, _), (3, _), (4, _), (5, _), (6, _)]) (pc := 180) C 5 dX4_worth_180 rfl (by decide) rfl (nI_i1 (i)) rfl ?_
              refine V_goto (tgt := 6) (pc := 183) C dX4_worth_183 (by decide) ?_
              refine V_loc (lv' := [(0, _), (1, _), (2, _), (3, _), (4, _), (5, _)]) [0, 1, 2, 3, 4, 5] rfl ?_
              refine ih (i + 1) (M0.1 14 0 j :: st) _ _ (by omega) (by simp; omega) (by rw [htop1]; exact nI_tm (by omega)) ⟨by simp [upd], xSR_upd (Nat.le_refl _) hsr⟩ ?_
              have ej2 : (-1 - q).toNatClampNeg = j := by rw [ej]; exact nI_clamp (by omega)
              simpa [xStep, hs6, h_55, ej2] using hq2
            · refine V_iload (pc := 58) C 6 dX4_worth_58 rfl ?_
              refine V_goto (tgt := 72) (pc := 60) C dX4_worth_60 (by decide) ?_
              refine V_iast (pc := 72) C (st.length) htop1 (by omega) (Nat.le_of_ble_eq_true rfl) (wg hG (by decide) (by decide)) (fun _ => wF_15) dX4_worth_72 ?_
              rw [mset_mrow]
              refine V_goto (tgt := 180) (pc := 73) C dX4_worth_73 (by decide) ?_
              refine Vs_iinc (v := nI (i + 1)) (lv' := [(0, _), (1, _), (2, _), (3, _), (4, _), (5, _), (6, _)]) (pc := 180) C 5 dX4_worth_180 rfl (by decide) rfl (nI_i1 (i)) rfl ?_
              refine V_goto (tgt := 6) (pc := 183) C dX4_worth_183 (by decide) ?_
              refine V_loc (lv' := [(0, _), (1, _), (2, _), (3, _), (4, _), (5, _)]) [0, 1, 2, 3, 4, 5] rfl ?_
              refine ih (i + 1) (q :: st) _ _ (by omega) (by simp; omega) (by rw [htop1]; exact nI_tm (by omega)) ⟨by simp [upd], xSR_upd (Nat.le_refl _) hsr⟩ ?_
              simp only [xStep, if_pos hs6, if_neg h_55] at hq2
              exact hq2
theorem c_X4_worth (hG : 30 ≤ G) (hd : 2 ≤ d) (M : wS) {t : Nat} (ht : t < 6) {a b : Nat} (hab : a ≤ b) (hb : b ≤ 160) : Ctr l D cy ad G d yX4_worth cX4_worth 7 (some .int) [.ref (ad 13 0), .ref (ad 8 t), .int (nI a), .int (nI b)] M (rI fun x M' => (∃ f, M' = mrow M 15 0 f) ∧ x = xVal (M.1 14 0) (M.1 8 t) a (b - a)) := by
  refine Ctr.of (lv0 := [(0, _), (1, _), (2, _), (3, _)]) (by decide) (Nat.le_of_ble_eq_true rfl) rfl ?_
  intro p e s m args below meth c C hr hlk _
  have C : CX p s m args c cX4_worth 7 "CostsAge$Scene" D cy ad G (wA ad G) (Rm d) d 0 0 := C
  refine V_iconst (v := -1) (pc := 0) C dX4_worth_0 (by decide) ?_
  refine Vs_istore (lv' := [(0, _), (1, _), (2, _), (3, _), (4, _)]) (pc := 1) C dX4_worth_1 (by decide) rfl rfl ?_
  refine V_iload_n (pc := 3) C 2 dX4_worth_3 rfl rfl ?_
  refine Vs_istore (lv' := [(0, _), (1, _), (2, _), (3, _), (4, _), (5, _)]) (pc := 4) C dX4_worth_4 (by decide) rfl rfl ?_
  refine V_mem (mrow_id M 15 0) ?_
  exact lp_X4_worth C hr hlk hG (by omega) ht _ hb M _ (b - a) a [] _ _ (by omega) (by simp; omega) (by decide) trivial (fun f => ⟨⟨f, rfl⟩, rfl⟩)
end S14
