/-- the weeks' remainder -/
def pWeek (w n : Int32) : Int32 := (w + n) - (w + n) / 52 * 52
/-- the text that rules: its number, its three ends -/
def IX (M : wS) (r e1 e2 e3 : Nat) : Prop := M.1 26 0 8 = nI r ∧ r < 6 ∧ M.1 7 r 1 = nI e1 ∧ M.1 7 r 2 = nI e2 ∧ M.1 7 r 3 = nI e3 ∧ e1 ≤ e2 ∧ e2 ≤ e3 ∧ e3 ≤ 160
/-- the buyers' ranges -/
def IB (M : wS) : Prop := ∀ k, k < 7 → (0 ≤ M.1 5 k 0 ∧ M.1 5 k 0 ≤ 5) ∧ (0 ≤ M.1 5 k 1 ∧ M.1 5 k 1 ≤ 51) ∧ (0 ≤ M.1 5 k 2 ∧ M.1 5 k 2 ≤ 9) ∧ (0 ≤ M.1 27 0 k ∧ M.1 27 0 k ≤ 99) ∧ (0 ≤ M.1 28 0 k ∧ M.1 28 0 k ≤ 99)
def kEnv (M : wS) (k : Nat) (fee n : Int32) : Nat → Int32 := upd (upd (upd (upd (M.1 14 0) 0 (pAgeC (M.1 5 k 1) (M.1 27 0 k) (M.1 26 0 4) n)) 3 (pWeek (M.1 26 0 4) n)) 4 fee) 5 (bI (M.1 13 0 2 = nI k))
def kPrice (M : wS) (r e1 e2 k : Nat) (fee n : Int32) : Int32 :=
  if xVal (kEnv M k fee n) (M.1 8 r) 0 e1 = 0 then -5
  else pPence (M.1 5 k 0) (M.1 5 k 2) (pAgeC (M.1 5 k 1) (M.1 27 0 k) (M.1 26 0 4) n) (pWeek (M.1 26 0 4) n) + pHeld (xVal (kEnv M k fee n) (M.1 8 r) e1 (e2 - e1))
def kCost (M : wS) (r e1 e2 k : Nat) (fee n : Int32) : Int32 :=
  if kPrice M r e1 e2 k fee n < 0 then kPrice M r e1 e2 k fee n else if M.1 13 0 2 = nI k then kPrice M r e1 e2 k fee n else kPrice M r e1 e2 k fee n + pAsks (M.1 5 k 0) (M.1 5 k 2) fee
/-- the memory but for the scene's names and stack -/
def Sc (M M' : wS) : Prop := (∀ g i, g ≠ 14 → g ≠ 15 → M'.1 g i = M.1 g i) ∧ M'.1 14 0 1 = M.1 14 0 1 ∧ M'.1 14 0 2 = M.1 14 0 2 ∧ M'.2 = M.2
theorem Sc.rf {M : wS} : Sc M M := ⟨fun _ _ _ _ => rfl, rfl, rfl, rfl⟩
theorem Sc.tr {M M1 M2 : wS} (h : Sc M M1) (h2 : Sc M1 M2) : Sc M M2 := ⟨fun g i a b => (h2.1 g i a b).trans (h.1 g i a b), h2.2.1.trans h.2.1, h2.2.2.1.trans h.2.2.1, h2.2.2.2.trans h.2.2.2⟩
theorem Sc.env {M : wS} {k : Nat} {fee n : Int32} {f : Nat → Int32} : Sc M (mrow (mrow M 14 0 (kEnv M k fee n)) 15 0 f) := by
  refine ⟨fun g i h1 h2 => ?_, ?_, ?_, rfl⟩
  · rw [mrow_ne _ _ _ _ (by omega), mrow_ne _ _ _ _ (by omega)]
  · rw [mrow_ne _ _ _ _ (by omega), mrow_self]
    simp [kEnv, upd]
  · rw [mrow_ne _ _ _ _ (by omega), mrow_self]
    simp [kEnv, upd]
theorem IX.sc {M M' : wS} {r e1 e2 e3 : Nat} (h : Sc M M') (hx : IX M r e1 e2 e3) : IX M' r e1 e2 e3 := by
  unfold IX at *
  rw [h.1 26 0 (by decide) (by decide), h.1 7 r (by decide) (by decide)]
  exact hx
theorem IB.sc {M M' : wS} (h : Sc M M') (hx : IB M) : IB M' := by
  intro k hk
  rw [h.1 5 k (by decide) (by decide), h.1 27 0 (by decide) (by decide), h.1 28 0 (by decide) (by decide)]
  exact hx k hk
theorem kEnv_sc {M M' : wS} (h : Sc M M') (k : Nat) (fee n : Int32) : ∀ j, j < 6 → kEnv M' k fee n j = kEnv M k fee n j := by
  intro j hj
  simp only [kEnv, h.1 5 k (by decide) (by decide), h.1 27 0 (by decide) (by decide), h.1 26 0 (by decide) (by decide), h.1 13 0 (by decide) (by decide), upd]
  match j, hj with
  | 0, _ => simp
  | 1, _ => simp [h.2.1]
  | 2, _ => simp [h.2.2.1]
  | 3, _ => simp
  | 4, _ => simp
  | 5, _ => simp
theorem xStep_congr {e1 e2 : Nat → Int32} (h : ∀ j, j < 6 → e1 j = e2 j) (q : Int32) (st : List Int32) : xStep e1 q st = xStep e2 q st := by
  unfold xStep
  by_cases h6 : -6 ≤ q
  · rw [if_pos h6, if_pos h6]
    by_cases h0 : q < 0
    · obtain ⟨j, hj, ej⟩ := ix_name (Int32.not_lt.mpr h6) h0
      rw [if_pos h0, if_pos h0, ej, nI_clamp (by omega), h j hj]
    · rw [if_neg h0, if_neg h0]
  · rw [if_neg h6, if_neg h6]
theorem xRun_congr {e1 e2 : Nat → Int32} (h : ∀ j, j < 6 → e1 j = e2 j) (code : Nat → Int32) : ∀ (n i : Nat) (st : List Int32), xRun e1 code i n st = xRun e2 code i n st := by
  intro n
  induction n with
  | zero => intro i st; rfl
  | succ n ih => intro i st; rw [xRun, xRun, xStep_congr h, ih]
theorem xVal_congr {e1 e2 : Nat → Int32} (h : ∀ j, j < 6 → e1 j = e2 j) (code : Nat → Int32) (a n : Nat) : xVal e1 code a n = xVal e2 code a n := by
  unfold xVal
  rw [xRun_congr h]
theorem kPrice_sc {M M' : wS} (h : Sc M M') (r e1 e2 k : Nat) (fee n : Int32) : kPrice M' r e1 e2 k fee n = kPrice M r e1 e2 k fee n := by
  unfold kPrice
  rw [h.1 8 r (by decide) (by decide), xVal_congr (kEnv_sc h k fee n), xVal_congr (kEnv_sc h k fee n), h.1 5 k (by decide) (by decide), h.1 27 0 (by decide) (by decide), h.1 26 0 (by decide) (by decide)]
theorem kCost_sc {M M' : wS} (h : Sc M M') (r e1 e2 k : Nat) (fee n : Int32) : kCost M' r e1 e2 k fee n = kCost M r e1 e2 k fee n := by
  unfold kCost
  rw [kPrice_sc h, h.1 13 0 (by decide) (by decide), h.1 5 k (by decide) (by decide)]
theorem pAgeC_range {born years week n : Int32} (hb : 0 ≤ born ∧ born ≤ 51) (hy : 0 ≤ years ∧ years ≤ 99) (hw : 0 ≤ week ∧ week ≤ 51) (hn : 0 ≤ n ∧ n ≤ 103) : 0 ≤ pAgeC born years week n ∧ pAgeC born years week n ≤ 99 := by
  have h1 : (pAhead born week).toInt ≥ 1 ∧ (pAhead born week).toInt ≤ 103 := by
    unfold pAhead
    (simp only [i32_eq, Int32.le_iff_toInt_le, Int32.lt_iff_toInt_lt, Int32.not_le, Int32.not_lt, Int32.toInt_add, Int32.toInt_sub, Int32.toInt_mul, Int32.toInt_neg, Int32.toInt_div, tdv2, tdv4, tdv10, tdv52, tdv100, nI_T, apply_ite Int32.toInt, Int.bmod, Int32.reduceToInt] at *; omega)
  have h2 : (pMore born week n).toInt ≥ 0 ∧ (pMore born week n).toInt ≤ 3 := by
    unfold pMore
    generalize pAhead born week = z at h1 ⊢
    (simp only [i32_eq, Int32.le_iff_toInt_le, Int32.lt_iff_toInt_lt, Int32.not_le, Int32.not_lt, Int32.toInt_add, Int32.toInt_sub, Int32.toInt_mul, Int32.toInt_neg, Int32.toInt_div, tdv2, tdv4, tdv10, tdv52, tdv100, nI_T, apply_ite Int32.toInt, Int.bmod, Int32.reduceToInt] at *; omega)
  unfold pAgeC
  generalize pMore born week n = z at h2 ⊢
  clear h1
  (simp only [i32_eq, Int32.le_iff_toInt_le, Int32.lt_iff_toInt_lt, Int32.not_le, Int32.not_lt, Int32.toInt_add, Int32.toInt_sub, Int32.toInt_mul, Int32.toInt_neg, Int32.toInt_div, tdv2, tdv4, tdv10, tdv52, tdv100, nI_T, apply_ite Int32.toInt, Int.bmod, Int32.reduceToInt] at *; omega)
section S15a
variable {p : Program} {l : Launch} {e : Env} {R : Room} {s : State} {m : MethodId} {args : Array Value} {below : List Frame} {meth : Method} {c : Code} {nL : Nat} {D : va_G} {cy : Nat → ClassId} {ad : Nat → Nat → Nat} {G : Nat} {A : Nat → Prop} {cells slots : Nat} {Q : State → Prop} {pc : Nat} {lv : List (Nat × Value)} {st : List Value} {M : wS}
/-- the stack as it is by equal values -/
theorem V_st {st' : List Value} (h : st' = st) (k : V p l e R s m args below meth c nL D cy ad G A cells slots Q pc lv st' M) : V p l e R s m args below meth c nL D cy ad G A cells slots Q pc lv st M := h ▸ k
end S15a
section S15
variable {l : Launch} {D : va_G} {cy : Nat → ClassId} {ad : Nat → Nat → Nat} {G d : Nat}
set_option maxHeartbeats 4000000 in
theorem c_X9_priceBy (hG : 30 ≤ G) (hd : 3 ≤ d) (M : wS) {r e1 e2 e3 : Nat} (hX : IX M r e1 e2 e3) (hB : IB M) (hw : 0 ≤ M.1 26 0 4 ∧ M.1 26 0 4 ≤ 51) {k : Nat} (hk7 : k < 7) (fee n : Int32) (hn : 0 ≤ n ∧ n ≤ 103) : Ctr l D cy ad G d yX9_priceBy cX9_priceBy 8 (some .int) [.ref (ad 0 0), .int (nI k), .int fee, .int n] M (rI fun x M' => (∃ f, M' = mrow (mrow M 14 0 (kEnv M k fee n)) 15 0 f) ∧ x = kPrice M r e1 e2 k fee n) := by
  obtain ⟨hr0, hr6, hx1, hx2, hx3, h12, h23, h160⟩ := hX
  refine Ctr.of (lv0 := [(0, _), (1, _), (2, _), (3, _)]) (by decide) (Nat.le_of_ble_eq_true rfl) rfl ?_
  intro p e s m args below meth c C hr hlk _
  have C : CX p s m args c cX9_priceBy 8 "CostsAge" D cy ad G (wA ad G) (Rm d) d 0 0 := C
  refine V_aload_n (pc := 0) C 0 dX9_priceBy_0 rfl rfl ?_
  refine get_X9_64 (pc := 1) C (wg hG (by decide) (by decide)) dX9_priceBy_1 ?_
  refine get_X9_160 (pc := 4) C (wg hG (by decide) (by decide)) dX9_priceBy_4 ?_
  refine V_iload_n (pc := 7) C 3 dX9_priceBy_7 rfl rfl ?_
  refine V_iadd (pc := 8) C dX9_priceBy_8 ?_
  refine V_bipush (v := 52) (pc := 9) C dX9_priceBy_9 (by decide) ?_
  refine V_irem (pc := 11) C dX9_priceBy_11 (by decide) ?_
  refine Vs_istore (lv' := [(0, _), (1, _), (2, _), (3, _), (4, _)]) (pc := 12) C dX9_priceBy_12 (by decide) rfl rfl ?_
  refine V_aload_n (pc := 14) C 0 dX9_priceBy_14 rfl rfl ?_
  refine get_X9_11 (pc := 15) C (wg hG (by decide) (by decide)) dX9_priceBy_15 ?_
  refine V_iload_n (pc := 18) C 1 dX9_priceBy_18 rfl rfl ?_
  refine V_aald (pc := 19) C (k) rfl hk7 (Nat.le_of_ble_eq_true rfl) (wg hG (by decide) (by decide)) wF_1 rfl dX9_priceBy_19 ?_
  refine V_iload_n (pc := 20) C 3 dX9_priceBy_20 rfl rfl ?_
  refine V_aload_n (pc := 21) C 0 dX9_priceBy_21 rfl rfl ?_
  refine get_X9_64 (pc := 22) C (wg hG (by decide) (by decide)) dX9_priceBy_22 ?_
  refine get_X9_118 (pc := 25) C (wg hG (by decide) (by decide)) dX9_priceBy_25 ?_
  refine V_iload_n (pc := 28) C 1 dX9_priceBy_28 rfl rfl ?_
  refine V_iald (pc := 29) C (k) rfl hk7 (Nat.le_of_ble_eq_true rfl) (wg hG (by decide) (by decide)) wF_27 dX9_priceBy_29 ?_
  refine V_aload_n (pc := 30) C 0 dX9_priceBy_30 rfl rfl ?_
  refine get_X9_64 (pc := 31) C (wg hG (by decide) (by decide)) dX9_priceBy_31 ?_
  refine get_X9_160 (pc := 34) C (wg hG (by decide) (by decide)) dX9_priceBy_34 ?_
  refine call_X9_176 (pc := 37) C (c_X0_ageIn (d := d - 1) hG (by omega) M hk7 n _ _) (by omega) (wg hG (by decide) (show (k) < 7 from hk7)) (Nat.le_of_ble_eq_true rfl) dX9_priceBy_37 (fun x_37 M_37 h_37 => ?_)
  obtain ⟨e_37, rfl⟩ := h_37
  have e_37 := e_37.symm
  subst e_37
  refine Vs_istore (lv' := [(0, _), (1, _), (2, _), (3, _), (4, _), (5, _)]) (pc := 40) C dX9_priceBy_40 (by decide) rfl rfl ?_
  refine V_aload_n (pc := 42) C 0 dX9_priceBy_42 rfl rfl ?_
  refine get_X9_43 (pc := 43) C (wg hG (by decide) (by decide)) dX9_priceBy_43 ?_
  refine get_X9_219 (pc := 46) C (wg hG (by decide) (by decide)) dX9_priceBy_46 ?_
  refine V_iconst (v := 0) (pc := 49) C dX9_priceBy_49 (by decide) ?_
  refine V_iload (pc := 50) C 5 dX9_priceBy_50 rfl ?_
  refine V_iast (pc := 52) C (0) (by decide) (by decide) (Nat.le_of_ble_eq_true rfl) (wg hG (by decide) (by decide)) (fun _ => wF_14) dX9_priceBy_52 ?_
  refine V_aload_n (pc := 53) C 0 dX9_priceBy_53 rfl rfl ?_
  refine get_X9_43 (pc := 54) C (wg hG (by decide) (by decide)) dX9_priceBy_54 ?_
  refine get_X9_219 (pc := 57) C (wg hG (by decide) (by decide)) dX9_priceBy_57 ?_
  refine V_iconst (v := 3) (pc := 60) C dX9_priceBy_60 (by decide) ?_
  refine V_iload (pc := 61) C 4 dX9_priceBy_61 rfl ?_
  refine V_iast (pc := 63) C (3) (by decide) (by decide) (Nat.le_of_ble_eq_true rfl) (wg hG (by decide) (by decide)) (fun _ => wF_14) dX9_priceBy_63 ?_
  refine V_aload_n (pc := 64) C 0 dX9_priceBy_64 rfl rfl ?_
  refine get_X9_43 (pc := 65) C (wg hG (by decide) (by decide)) dX9_priceBy_65 ?_
  refine get_X9_219 (pc := 68) C (wg hG (by decide) (by decide)) dX9_priceBy_68 ?_
  refine V_iconst (v := 4) (pc := 71) C dX9_priceBy_71 (by decide) ?_
  refine V_iload_n (pc := 72) C 2 dX9_priceBy_72 rfl rfl ?_
  refine V_iast (pc := 73) C (4) (by decide) (by decide) (Nat.le_of_ble_eq_true rfl) (wg hG (by decide) (by decide)) (fun _ => wF_14) dX9_priceBy_73 ?_
  refine V_aload_n (pc := 74) C 0 dX9_priceBy_74 rfl rfl ?_
  refine get_X9_43 (pc := 75) C (wg hG (by decide) (by decide)) dX9_priceBy_75 ?_
  refine get_X9_219 (pc := 78) C (wg hG (by decide) (by decide)) dX9_priceBy_78 ?_
  refine V_iconst (v := 5) (pc := 81) C dX9_priceBy_81 (by decide) ?_
  refine V_aload_n (pc := 82) C 0 dX9_priceBy_82 rfl rfl ?_
  refine get_X9_43 (pc := 83) C (wg hG (by decide) (by decide)) dX9_priceBy_83 ?_
  refine get_X9_222 (pc := 86) C (wg hG (by decide) (by decide)) dX9_priceBy_86 ?_
  refine V_iload_n (pc := 89) C 1 dX9_priceBy_89 rfl rfl ?_
  refine V_icmp_ne (tgt := 97) (pc := 90) C dX9_priceBy_90 (by decide) (fun h_90 => ?_) (fun h_90 => ?_)
  · have h9 : ¬ M.1 13 0 2 = nI k := by simpa [mset_at] using h_90
    refine V_iconst (v := 0) (pc := 97) C dX9_priceBy_97 (by decide) ?_
    refine V_iast (pc := 98) C (5) (by decide) (by decide) (Nat.le_of_ble_eq_true rfl) (wg hG (by decide) (by decide)) (fun _ => wF_14) dX9_priceBy_98 ?_
    refine V_mem (M' := mrow M 14 0 (kEnv M k fee n)) (by rw [← mrow_id M 14 0]; simp only [mset_mrow, mrow_mrow, mrow_self]; rw [mrow_id]; unfold kEnv; rw [bI, if_neg h9]; rfl) ?_
    refine V_aload_n (pc := 99) C 0 dX9_priceBy_99 rfl rfl ?_
    refine get_X9_23 (pc := 100) C (wg hG (by decide) (by decide)) dX9_priceBy_100 ?_
    refine V_aload_n (pc := 103) C 0 dX9_priceBy_103 rfl rfl ?_
    refine get_X9_64 (pc := 104) C (wg hG (by decide) (by decide)) dX9_priceBy_104 ?_
    refine get_X9_173 (pc := 107) C (wg hG (by decide) (by decide)) dX9_priceBy_107 ?_
    refine V_aald (pc := 110) C (r) (by rw [mrow_ne _ _ _ _ (by omega)]; exact hr0) hr6 (Nat.le_of_ble_eq_true rfl) (wg hG (by decide) (by decide)) wF_3 rfl dX9_priceBy_110 ?_
    refine Vs_astore (lv' := [(0, _), (1, _), (2, _), (3, _), (4, _), (5, _), (6, _)]) (pc := 111) C dX9_priceBy_111 (by decide) rfl rfl ?_
    refine V_aload_n (pc := 113) C 0 dX9_priceBy_113 rfl rfl ?_
    refine get_X9_43 (pc := 114) C (wg hG (by decide) (by decide)) dX9_priceBy_114 ?_
    refine V_aload (pc := 117) C 6 dX9_priceBy_117 rfl ?_
    refine get_X9_225 (pc := 119) C (wg hG (by decide) (show (r) < 6 from hr6)) dX9_priceBy_119 ?_
    refine V_iconst (v := 0) (pc := 122) C dX9_priceBy_122 (by decide) ?_
    refine V_aload (pc := 123) C 6 dX9_priceBy_123 rfl ?_
    refine get_X9_228 (pc := 125) C (wg hG (by decide) (show (r) < 6 from hr6)) dX9_priceBy_125 ?_
    refine V_st (st' := [.int (nI e1), .int (nI 0), .ref (ad 8 r), .ref (ad 13 0)]) (by rw [mrow_at, if_neg (by omega), hx1]; rfl) ?_
    refine call_X9_231 (pc := 128) C (c_X4_worth (d := d - 1) hG (by omega) _ hr6 (a := 0) (b := e1) (by omega) (by omega)) (by omega) (wg hG (by decide) (by decide)) (Nat.le_of_ble_eq_true rfl) dX9_priceBy_128 (fun x_128 M_128 h_128 => ?_)
    obtain ⟨⟨f_1, e_1⟩, rfl⟩ := h_128
    subst e_1
    rw [mrow_self, mrow_ne _ 14 0 _ (g' := 8) (i' := r) (by omega), Nat.sub_zero]
    refine V_if_ne (tgt := 137) (pc := 131) C dX9_priceBy_131 (by decide) (fun h_131 => ?_) (fun h_131 => ?_)
    · refine V_aload_n (pc := 137) C 0 dX9_priceBy_137 rfl rfl ?_
      refine get_X9_43 (pc := 138) C (wg hG (by decide) (by decide)) dX9_priceBy_138 ?_
      refine V_aload (pc := 141) C 6 dX9_priceBy_141 rfl ?_
      refine get_X9_225 (pc := 143) C (wg hG (by decide) (show (r) < 6 from hr6)) dX9_priceBy_143 ?_
      refine V_aload (pc := 146) C 6 dX9_priceBy_146 rfl ?_
      refine get_X9_228 (pc := 148) C (wg hG (by decide) (show (r) < 6 from hr6)) dX9_priceBy_148 ?_
      refine V_aload (pc := 151) C 6 dX9_priceBy_151 rfl ?_
      refine get_X9_234 (pc := 153) C (wg hG (by decide) (show (r) < 6 from hr6)) dX9_priceBy_153 ?_
      refine V_st (st' := [.int (nI e2), .int (nI e1), .ref (ad 8 r), .ref (ad 13 0)]) (by rw [mrow_at, if_neg (by omega), mrow_at, if_neg (by omega), hx2, mrow_at, if_neg (by omega), mrow_at, if_neg (by omega), hx1]) ?_
      refine call_X9_231 (pc := 156) C (c_X4_worth (d := d - 1) hG (by omega) _ hr6 (a := e1) (b := e2) (by omega) (by omega)) (by omega) (wg hG (by decide) (by decide)) (Nat.le_of_ble_eq_true rfl) dX9_priceBy_156 (fun x_156 M_156 h_156 => ?_)
      obtain ⟨⟨f_2, e_2⟩, rfl⟩ := h_156
      subst e_2
      rw [mrow_mrow, mrow_ne _ 15 0 _ (g' := 14) (i' := 0) (by omega), mrow_self, mrow_ne _ 15 0 _ (g' := 8) (i' := r) (by omega), mrow_ne _ 14 0 _ (g' := 8) (i' := r) (by omega)]
      refine Vs_istore (lv' := [(0, _), (1, _), (2, _), (3, _), (4, _), (5, _), (6, _), (7, _)]) (pc := 159) C dX9_priceBy_159 (by decide) rfl rfl ?_
      refine V_aload_n (pc := 161) C 0 dX9_priceBy_161 rfl rfl ?_
      refine get_X9_11 (pc := 162) C (wg hG (by decide) (by decide)) dX9_priceBy_162 ?_
      refine V_iload_n (pc := 165) C 1 dX9_priceBy_165 rfl rfl ?_
      refine V_aald (pc := 166) C (k) rfl hk7 (Nat.le_of_ble_eq_true rfl) (wg hG (by decide) (by decide)) wF_1 rfl dX9_priceBy_166 ?_
      refine V_iload (pc := 167) C 5 dX9_priceBy_167 rfl ?_
      refine V_iload (pc := 169) C 4 dX9_priceBy_169 rfl ?_
      refine call_X9_163 (pc := 171) C (c_X0_penceAt (d := d - 1) hG (by omega) _ hk7 _ _ (pAgeC_range (hB k hk7).2.1 (hB k hk7).2.2.2.1 hw hn) (by rw [mrow_at, if_neg (by omega), mrow_at, if_neg (by omega)]; exact (hB k hk7).2.2.1)) (by omega) (wg hG (by decide) (show (k) < 7 from hk7)) (Nat.le_of_ble_eq_true rfl) dX9_priceBy_171 (fun x_171 M_171 h_171 => ?_)
      obtain ⟨e_171, rfl⟩ := h_171
      have e_171 := e_171.symm
      subst e_171
      refine V_iload (pc := 174) C 7 dX9_priceBy_174 rfl ?_
      refine call_X9_237 (pc := 176) C (c_X9_held (d := d - 1) (by omega) _ _) (by omega) (Nat.le_of_ble_eq_true rfl) dX9_priceBy_176 (fun x_176 M_176 h_176 => ?_)
      obtain ⟨e_176, rfl⟩ := h_176
      have e_176 := e_176.symm
      subst e_176
      refine V_iadd (pc := 179) C dX9_priceBy_179 ?_
      refine V_iret (pc := 180) C hr hlk dX9_priceBy_180 ⟨_, rfl, ?_⟩
      refine ⟨⟨f_2, rfl⟩, ?_⟩
      rw [kPrice, if_neg h_131, mrow_at, if_neg (by omega), mrow_at, if_neg (by omega), mrow_at, if_neg (by omega), mrow_at, if_neg (by omega)]
      rfl
    · refine V_bipush (v := -5) (pc := 134) C dX9_priceBy_134 (by decide) ?_
      refine V_iret (pc := 136) C hr hlk dX9_priceBy_136 ⟨_, rfl, ?_⟩
      exact ⟨⟨f_1, rfl⟩, by rw [kPrice, if_pos h_131]⟩
  · have h9 : M.1 13 0 2 = nI k := by simpa [mset_at] using h_90
    refine V_iconst (v := 1) (pc := 93) C dX9_priceBy_93 (by decide) ?_
    refine V_goto (tgt := 98) (pc := 94) C dX9_priceBy_94 (by decide) ?_
    refine V_iast (pc := 98) C (5) (by decide) (by decide) (Nat.le_of_ble_eq_true rfl) (wg hG (by decide) (by decide)) (fun _ => wF_14) dX9_priceBy_98 ?_
    refine V_mem (M' := mrow M 14 0 (kEnv M k fee n)) (by rw [← mrow_id M 14 0]; simp only [mset_mrow, mrow_mrow, mrow_self]; rw [mrow_id]; unfold kEnv; rw [bI, if_pos h9]; rfl) ?_
    refine V_aload_n (pc := 99) C 0 dX9_priceBy_99 rfl rfl ?_
    refine get_X9_23 (pc := 100) C (wg hG (by decide) (by decide)) dX9_priceBy_100 ?_
    refine V_aload_n (pc := 103) C 0 dX9_priceBy_103 rfl rfl ?_
    refine get_X9_64 (pc := 104) C (wg hG (by decide) (by decide)) dX9_priceBy_104 ?_
    refine get_X9_173 (pc := 107) C (wg hG (by decide) (by decide)) dX9_priceBy_107 ?_
    refine V_aald (pc := 110) C (r) (by rw [mrow_ne _ _ _ _ (by omega)]; exact hr0) hr6 (Nat.le_of_ble_eq_true rfl) (wg hG (by decide) (by decide)) wF_3 rfl dX9_priceBy_110 ?_
    refine Vs_astore (lv' := [(0, _), (1, _), (2, _), (3, _), (4, _), (5, _), (6, _)]) (pc := 111) C dX9_priceBy_111 (by decide) rfl rfl ?_
    refine V_aload_n (pc := 113) C 0 dX9_priceBy_113 rfl rfl ?_
    refine get_X9_43 (pc := 114) C (wg hG (by decide) (by decide)) dX9_priceBy_114 ?_
    refine V_aload (pc := 117) C 6 dX9_priceBy_117 rfl ?_
    refine get_X9_225 (pc := 119) C (wg hG (by decide) (show (r) < 6 from hr6)) dX9_priceBy_119 ?_
    refine V_iconst (v := 0) (pc := 122) C dX9_priceBy_122 (by decide) ?_
    refine V_aload (pc := 123) C 6 dX9_priceBy_123 rfl ?_
    refine get_X9_228 (pc := 125) C (wg hG (by decide) (show (r) < 6 from hr6)) dX9_priceBy_125 ?_
    refine V_st (st' := [.int (nI e1), .int (nI 0), .ref (ad 8 r), .ref (ad 13 0)]) (by rw [mrow_at, if_neg (by omega), hx1]; rfl) ?_
    refine call_X9_231 (pc := 128) C (c_X4_worth (d := d - 1) hG (by omega) _ hr6 (a := 0) (b := e1) (by omega) (by omega)) (by omega) (wg hG (by decide) (by decide)) (Nat.le_of_ble_eq_true rfl) dX9_priceBy_128 (fun x_128 M_128 h_128 => ?_)
    obtain ⟨⟨f_1, e_1⟩, rfl⟩ := h_128
    subst e_1
    rw [mrow_self, mrow_ne _ 14 0 _ (g' := 8) (i' := r) (by omega), Nat.sub_zero]
    refine V_if_ne (tgt := 137) (pc := 131) C dX9_priceBy_131 (by decide) (fun h_131 => ?_) (fun h_131 => ?_)
    · refine V_aload_n (pc := 137) C 0 dX9_priceBy_137 rfl rfl ?_
      refine get_X9_43 (pc := 138) C (wg hG (by decide) (by decide)) dX9_priceBy_138 ?_
      refine V_aload (pc := 141) C 6 dX9_priceBy_141 rfl ?_
      refine get_X9_225 (pc := 143) C (wg hG (by decide) (show (r) < 6 from hr6)) dX9_priceBy_143 ?_
      refine V_aload (pc := 146) C 6 dX9_priceBy_146 rfl ?_
      refine get_X9_228 (pc := 148) C (wg hG (by decide) (show (r) < 6 from hr6)) dX9_priceBy_148 ?_
      refine V_aload (pc := 151) C 6 dX9_priceBy_151 rfl ?_
      refine get_X9_234 (pc := 153) C (wg hG (by decide) (show (r) < 6 from hr6)) dX9_priceBy_153 ?_
      refine V_st (st' := [.int (nI e2), .int (nI e1), .ref (ad 8 r), .ref (ad 13 0)]) (by rw [mrow_at, if_neg (by omega), mrow_at, if_neg (by omega), hx2, mrow_at, if_neg (by omega), mrow_at, if_neg (by omega), hx1]) ?_
      refine call_X9_231 (pc := 156) C (c_X4_worth (d := d - 1) hG (by omega) _ hr6 (a := e1) (b := e2) (by omega) (by omega)) (by omega) (wg hG (by decide) (by decide)) (Nat.le_of_ble_eq_true rfl) dX9_priceBy_156 (fun x_156 M_156 h_156 => ?_)
      obtain ⟨⟨f_2, e_2⟩, rfl⟩ := h_156
      subst e_2
      rw [mrow_mrow, mrow_ne _ 15 0 _ (g' := 14) (i' := 0) (by omega), mrow_self, mrow_ne _ 15 0 _ (g' := 8) (i' := r) (by omega), mrow_ne _ 14 0 _ (g' := 8) (i' := r) (by omega)]
      refine Vs_istore (lv' := [(0, _), (1, _), (2, _), (3, _), (4, _), (5, _), (6, _), (7, _)]) (pc := 159) C dX9_priceBy_159 (by decide) rfl rfl ?_
      refine V_aload_n (pc := 161) C 0 dX9_priceBy_161 rfl rfl ?_
      refine get_X9_11 (pc := 162) C (wg hG (by decide) (by decide)) dX9_priceBy_162 ?_
      refine V_iload_n (pc := 165) C 1 dX9_priceBy_165 rfl rfl ?_
      refine V_aald (pc := 166) C (k) rfl hk7 (Nat.le_of_ble_eq_true rfl) (wg hG (by decide) (by decide)) wF_1 rfl dX9_priceBy_166 ?_
      refine V_iload (pc := 167) C 5 dX9_priceBy_167 rfl ?_
      refine V_iload (pc := 169) C 4 dX9_priceBy_169 rfl ?_
      refine call_X9_163 (pc := 171) C (c_X0_penceAt (d := d - 1) hG (by omega) _ hk7 _ _ (pAgeC_range (hB k hk7).2.1 (hB k hk7).2.2.2.1 hw hn) (by rw [mrow_at, if_neg (by omega), mrow_at, if_neg (by omega)]; exact (hB k hk7).2.2.1)) (by omega) (wg hG (by decide) (show (k) < 7 from hk7)) (Nat.le_of_ble_eq_true rfl) dX9_priceBy_171 (fun x_171 M_171 h_171 => ?_)
      obtain ⟨e_171, rfl⟩ := h_171
      have e_171 := e_171.symm
      subst e_171
      refine V_iload (pc := 174) C 7 dX9_priceBy_174 rfl ?_
      refine call_X9_237 (pc := 176) C (c_X9_held (d := d - 1) (by omega) _ _) (by omega) (Nat.le_of_ble_eq_true rfl) dX9_priceBy_176 (fun x_176 M_176 h_176 => ?_)
      obtain ⟨e_176, rfl⟩ := h_176
      have e_176 := e_176.symm
      subst e_176
      refine V_iadd (pc := 179) C dX9_priceBy_179 ?_
      refine V_iret (pc := 180) C hr hlk dX9_priceBy_180 ⟨_, rfl, ?_⟩
      refine ⟨⟨f_2, rfl⟩, ?_⟩
      rw [kPrice, if_neg h_131, mrow_at, if_neg (by omega), mrow_at, if_neg (by omega), mrow_at, if_neg (by omega), mrow_at, if_neg (by omega)]
      rfl
    · refine V_bipush (v := -5) (pc := 134) C dX9_priceBy_134 (by decide) ?_
      refine V_iret (pc := 136) C hr hlk dX9_priceBy_136 ⟨_, rfl, ?_⟩
      exact ⟨⟨f_1, rfl⟩, by rw [kPrice, if_pos h_131]⟩
theorem c_X9_costBy (hG : 30 ≤ G) (hd : 4 ≤ d) (M : wS) {r e1 e2 e3 : Nat} (hX : IX M r e1 e2 e3) (hB : IB M) (hw : 0 ≤ M.1 26 0 4 ∧ M.1 26 0 4 ≤ 51) {k : Nat} (hk7 : k < 7) (fee n : Int32) (hn : 0 ≤ n ∧ n ≤ 103) : Ctr l D cy ad G d yX9_costBy cX9_costBy 5 (some .int) [.ref (ad 0 0), .int (nI k), .int fee, .int n] M (rI fun x M' => (∃ f, M' = mrow (mrow M 14 0 (kEnv M k fee n)) 15 0 f) ∧ x = kCost M r e1 e2 k fee n) := by
  refine Ctr.of (lv0 := [(0, _), (1, _), (2, _), (3, _)]) (by decide) (Nat.le_of_ble_eq_true rfl) rfl ?_
  intro p e s m args below meth c C hr hlk _
  have C : CX p s m args c cX9_costBy 5 "CostsAge" D cy ad G (wA ad G) (Rm d) d 0 0 := C
  refine V_aload_n (pc := 0) C 0 dX9_costBy_0 rfl rfl ?_
  refine V_iload_n (pc := 1) C 1 dX9_costBy_1 rfl rfl ?_
  refine V_iload_n (pc := 2) C 2 dX9_costBy_2 rfl rfl ?_
  refine V_iload_n (pc := 3) C 3 dX9_costBy_3 rfl rfl ?_
  refine call_X9_195 (pc := 4) C (c_X9_priceBy (d := d - 1) hG (by omega) M hX hB hw hk7 fee n hn) (by omega) (wg hG (by decide) (by decide)) (Nat.le_of_ble_eq_true rfl) dX9_costBy_4 (fun x_4 M_4 h_4 => ?_)
  obtain ⟨⟨f_1, e_1⟩, rfl⟩ := h_4
  subst e_1
  refine Vs_istore (lv' := [(0, _), (1, _), (2, _), (3, _), (4, _)]) (pc := 7) C dX9_costBy_7 (by decide) rfl rfl ?_
  refine V_iload (pc := 9) C 4 dX9_costBy_9 rfl ?_
  refine V_if_lt (tgt := 25) (pc := 11) C dX9_costBy_11 (by decide) (fun h_11 => ?_) (fun h_11 => ?_)
  · refine V_iload (pc := 25) C 4 dX9_costBy_25 rfl ?_
    refine V_goto (tgt := 43) (pc := 27) C dX9_costBy_27 (by decide) ?_
    refine V_iret (pc := 43) C hr hlk dX9_costBy_43 ⟨_, rfl, ?_⟩
    exact ⟨⟨f_1, rfl⟩, by rw [kCost, if_pos h_11]⟩
  · refine V_aload_n (pc := 14) C 0 dX9_costBy_14 rfl rfl ?_
    refine get_X9_43 (pc := 15) C (wg hG (by decide) (by decide)) dX9_costBy_15 ?_
    refine get_X9_222 (pc := 18) C (wg hG (by decide) (by decide)) dX9_costBy_18 ?_
    rw [mrow_at, if_neg (by omega), mrow_at, if_neg (by omega)]
    refine V_iload_n (pc := 21) C 1 dX9_costBy_21 rfl rfl ?_
    refine V_icmp_ne (tgt := 30) (pc := 22) C dX9_costBy_22 (by decide) (fun h_22 => ?_) (fun h_22 => ?_)
    · refine V_iload (pc := 30) C 4 dX9_costBy_30 rfl ?_
      refine V_aload_n (pc := 32) C 0 dX9_costBy_32 rfl rfl ?_
      refine get_X9_11 (pc := 33) C (wg hG (by decide) (by decide)) dX9_costBy_33 ?_
      refine V_iload_n (pc := 36) C 1 dX9_costBy_36 rfl rfl ?_
      refine V_aald (pc := 37) C (k) rfl hk7 (Nat.le_of_ble_eq_true rfl) (wg hG (by decide) (by decide)) wF_1 rfl dX9_costBy_37 ?_
      refine V_iload_n (pc := 38) C 2 dX9_costBy_38 rfl rfl ?_
      refine call_X9_166 (pc := 39) C (c_X0_asksBy (d := d - 1) hG _ hk7 _) (by omega) (wg hG (by decide) (show (k) < 7 from hk7)) (Nat.le_of_ble_eq_true rfl) dX9_costBy_39 (fun x_39 M_39 h_39 => ?_)
      obtain ⟨e_39, rfl⟩ := h_39
      have e_39 := e_39.symm
      subst e_39
      refine V_iadd (pc := 42) C dX9_costBy_42 ?_
      refine V_iret (pc := 43) C hr hlk dX9_costBy_43 ⟨_, rfl, ?_⟩
      refine ⟨⟨f_1, rfl⟩, ?_⟩
      rw [kCost, if_neg h_11, if_neg h_22, mrow_at, if_neg (by omega), mrow_at, if_neg (by omega), mrow_at, if_neg (by omega), mrow_at, if_neg (by omega)]
    · refine V_iload (pc := 25) C 4 dX9_costBy_25 rfl ?_
      refine V_goto (tgt := 43) (pc := 27) C dX9_costBy_27 (by decide) ?_
      refine V_iret (pc := 43) C hr hlk dX9_costBy_43 ⟨_, rfl, ?_⟩
      exact ⟨⟨f_1, rfl⟩, by rw [kCost, if_neg h_11, if_pos h_22]⟩
end S15
