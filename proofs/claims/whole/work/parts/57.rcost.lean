/-! the reference's shop, against the class's memory M0 -/
def rA (M0 M : wS) (nb nt : Nat) : Prop := (M.1 30 0 12 = nI nb ∧ M.1 30 0 16 = nI nt) ∧ (M.1 30 0 17 = M0.1 26 0 3 ∧ M.1 30 0 18 = M0.1 26 0 4 ∧ M.1 30 0 21 = M0.1 26 0 7 ∧ M.1 30 0 4 = M0.1 26 0 8) ∧ ∀ k, k < 7 → (M.1 34 0 k = M0.1 5 k 0 ∧ M.1 35 0 k = M0.1 5 k 1 ∧ M.1 36 0 k = M0.1 27 0 k ∧ M.1 37 0 k = M0.1 28 0 k ∧ M.1 38 0 k = M0.1 5 k 2) ∧ (M.1 39 0 k = M0.1 6 k 0 ∧ M.1 40 0 k = M0.1 6 k 1 ∧ M.1 41 0 k = M0.1 29 0 k)
/-- the text r, told in bytes by the reference, is the class's code -/
def rT (M0 M : wS) (r e1 e2 e3 : Nat) : Prop := ∃ (z : Nat) (f : Nat → Int32), M.1 32 0 r = nI z ∧ z ≤ 160 ∧ (∀ k, k < z → M.1 31 0 (160 * r + k) = f k) ∧ (∀ k, k < z → 0 ≤ f k) ∧ cOf f z (M0.1 8 r) e1 e2 e3
def rC (M0 M : wS) (nb nt r e1 e2 e3 : Nat) : Prop := IP M0 nb nt r e1 e2 e3 ∧ rA M0 M nb nt ∧ rT M0 M r e1 e2 e3
/-- what asking may change in the reference -/
def qF (M M' : wS) : Prop := (∀ g i, g ≠ 30 → g ∉ [42, 43, 44, 45, 46, 47, 48] → M'.1 g i = M.1 g i) ∧ ∀ k, k < 22 ∨ 38 < k → M'.1 30 0 k = M.1 30 0 k
theorem qF.rf {M : wS} : qF M M := ⟨fun _ _ _ _ => rfl, fun _ _ => rfl⟩
theorem qF.tr {M M1 M2 : wS} (h : qF M M1) (h2 : qF M1 M2) : qF M M2 := ⟨fun g i a b => (h2.1 g i a b).trans (h.1 g i a b), fun k a => (h2.2 k a).trans (h.2 k a)⟩
theorem frX.q {M M' : wS} (h : frX M M') : qF M M' := ⟨fun g i a _ => h.1 g i a, fun k a => h.2 k (by omega)⟩
theorem qF.set {M : wS} {k : Nat} (x : Int32) (hk : 22 ≤ k ∧ k ≤ 38) : qF M (mset M 30 0 k x) := by
  refine ⟨fun g i h _ => ?_, fun j a => ?_⟩
  · funext j
    rw [mset_at, if_neg (fun e => h e.1)]
  · rw [mset_at, if_neg (fun e => by omega)]
theorem qF.arr {M : wS} {g k : Nat} (x : Int32) (hg : g ∈ [42, 43, 44, 45, 46, 47, 48]) : qF M (mset M g 0 k x) := by
  refine ⟨fun g' i _ h => ?_, fun j a => ?_⟩
  · funext j
    rw [mset_at, if_neg (fun e => h (by rw [e.1]; exact hg))]
  · rw [mset_at, if_neg (fun e => by
      have : g = 30 := e.1.symm
      rw [this] at hg
      exact absurd hg (by decide))]
/-- nothing but the numbers of a reading, of names, and up to hi -/
def frK (hi : Nat) (M M' : wS) : Prop := (∀ g i, g ≠ 30 → M'.1 g i = M.1 g i) ∧ ∀ k, k < 22 ∨ hi < k → M'.1 30 0 k = M.1 30 0 k
theorem frK.rf {hi : Nat} {M : wS} : frK hi M M := ⟨fun _ _ _ => rfl, fun _ _ => rfl⟩
theorem frK.tr {hi : Nat} {M M1 M2 : wS} (h : frK hi M M1) (h2 : frK hi M1 M2) : frK hi M M2 := ⟨fun g i a => (h2.1 g i a).trans (h.1 g i a), fun k a => (h2.2 k a).trans (h.2 k a)⟩
theorem frK.q {hi : Nat} {M M' : wS} (h : frK hi M M') (hh : hi ≤ 38) : qF M M' := ⟨fun g i a _ => h.1 g i a, fun k a => h.2 k (by omega)⟩
theorem frK.up {hi h2 : Nat} {M M' : wS} (h : frK hi M M') (hh : hi ≤ h2) : frK h2 M M' := ⟨h.1, fun k a => h.2 k (by omega)⟩
theorem frX.k {M M' : wS} (h : frX M M') : frK 36 M M' := ⟨h.1, fun k a => h.2 k (by omega)⟩
theorem frK.set {hi : Nat} {M : wS} {k : Nat} (x : Int32) (hk : 22 ≤ k ∧ k ≤ hi) : frK hi M (mset M 30 0 k x) := by
  refine ⟨fun g i h => ?_, fun j a => ?_⟩
  · funext j
    rw [mset_at, if_neg (fun e => h e.1)]
  · rw [mset_at, if_neg (fun e => by omega)]
theorem rC.q {M0 M M' : wS} {nb nt r e1 e2 e3 : Nat} (h : qF M M') (hC : rC M0 M nb nt r e1 e2 e3) : rC M0 M' nb nt r e1 e2 e3 := by
  obtain ⟨h1, ⟨⟨a1, a2⟩, ⟨a3, a4, a5, a6⟩, a7⟩, z, f, b1, b2, b3, b4, b5⟩ := hC
  refine ⟨h1, ⟨⟨?_, ?_⟩, ⟨?_, ?_, ?_, ?_⟩, fun k hk => ?_⟩, z, f, ?_, b2, fun k hk => ?_, b4, b5⟩
  · rw [h.2 12 (by omega)]; exact a1
  · rw [h.2 16 (by omega)]; exact a2
  · rw [h.2 17 (by omega)]; exact a3
  · rw [h.2 18 (by omega)]; exact a4
  · rw [h.2 21 (by omega)]; exact a5
  · rw [h.2 4 (by omega)]; exact a6
  · rw [h.1 34 0 (by decide) (by decide), h.1 35 0 (by decide) (by decide), h.1 36 0 (by decide) (by decide), h.1 37 0 (by decide) (by decide), h.1 38 0 (by decide) (by decide), h.1 39 0 (by decide) (by decide), h.1 40 0 (by decide) (by decide), h.1 41 0 (by decide) (by decide)]
    exact a7 k hk
  · rw [h.1 32 0 (by decide) (by decide)]; exact b1
  · rw [h.1 31 0 (by decide) (by decide)]; exact b3 k hk
/-- years, counted week by week -/
def cntW (wk bn : Nat) : Nat → Nat
  | 0 => 0
  | n + 1 => cntW wk bn n + if (wk + (n + 1)) % 52 = bn then 1 else 0
theorem cntW_eq (wk bn : Nat) (hw : wk ≤ 51) (hb : bn ≤ 51) : ∀ n, cntW wk bn n = if (if bn ≤ wk then bn + 52 - wk else bn - wk) ≤ n then 1 + (n - (if bn ≤ wk then bn + 52 - wk else bn - wk)) / 52 else 0 := by
  intro n
  induction n with
  | zero =>
    unfold cntW
    split <;> split <;> omega
  | succ n ih =>
    unfold cntW
    rw [ih]
    split <;> split <;> split <;> split <;> omega
theorem cntW_le (wk bn n : Nat) : cntW wk bn n ≤ n := by
  induction n with
  | zero => exact Nat.le_refl _
  | succ n ih =>
    unfold cntW
    split <;> omega
theorem nI_rem52 : ∀ a, a < 256 → nI a - nI a / 52 * 52 = nI (a % 52) := by decide +kernel
theorem ageC_nat {wk bn y n : Nat} (hw : wk ≤ 51) (hb : bn ≤ 51) (hy : y ≤ 99) (hn : n ≤ 103) : pAgeC (nI bn) (nI y) (nI wk) (nI n) = if 99 < nI (y + cntW wk bn n) then 99 else nI (y + cntW wk bn n) := by
  have h1 : (nI bn).toInt = (bn : Int) := nI_toInt (by omega)
  have h2 : (nI wk).toInt = (wk : Int) := nI_toInt (by omega)
  have hA : pAhead (nI bn) (nI wk) = nI (if bn ≤ wk then bn + 52 - wk else bn - wk) := by
    unfold pAhead
    apply Int32.toInt_inj.mp
    by_cases c : bn ≤ wk
    · rw [if_pos (nI_le c (by omega)), if_pos c, nI_toInt (by omega), Int32.toInt_add, Int32.toInt_sub, h1, h2]
      simp only [Int.bmod, Int32.reduceToInt]
      omega
    · rw [if_neg (nI_ge (by omega) (by omega)), if_neg c, nI_toInt (by omega), Int32.toInt_sub, h1, h2]
      simp only [Int.bmod]
      omega
  have hM : pMore (nI bn) (nI wk) (nI n) = nI (cntW wk bn n) := by
    unfold pMore
    rw [hA, cntW_eq wk bn hw hb n]
    generalize hq : (if bn ≤ wk then bn + 52 - wk else bn - wk) = q
    have hq2 : q ≤ 52 := by
      rw [← hq]
      split <;> omega
    by_cases c : q ≤ n
    · rw [if_pos (nI_le c (by omega)), if_pos c]
      have key : ∀ a, a < 104 → 1 + nI a / 52 = nI (1 + a / 52) := by decide +kernel
      rw [← key (n - q) (by omega)]
      have e2 := nI_add (n - q) q
      rw [Nat.sub_add_cancel c] at e2
      rw [← e2, Int32.add_sub_cancel]
    · rw [if_neg (nI_ge (by omega) (by omega)), if_neg c]
      rfl
  have hc := cntW_le wk bn n
  unfold pAgeC
  rw [hM, nI_add, show (99 : Int32) = nI 99 from rfl]
  by_cases c : y + cntW wk bn n < 99
  · rw [if_pos (nI_lt c (by decide)), if_neg (nI_nlt (Nat.le_of_lt c) (by decide))]
  · rw [if_neg (nI_nlt (Nat.le_of_not_lt c) (by omega))]
    by_cases c2 : y + cntW wk bn n = 99
    · rw [c2, if_neg (nI_nlt (Nat.le_refl _) (by decide))]
    · rw [if_pos (nI_lt (by omega) (by omega))]
section S57
variable {l : Launch} {D : va_G} {cy : Nat → ClassId} {ad : Nat → Nat → Nat} {G d : Nat}
theorem lp_X10_yearsIn {p : Program} {e : Env} {s : State} {m : MethodId} {args : Array Value} {below : List Frame} {meth : Method} {c : Code} (C : CX p s m args c cX10_yearsIn 5 "CostsAgeModel" D cy ad G (wA ad G) (Rm d) d 0 0) (hr : meth.sig.returnType = (some .int)) (hlk : meth.locks = false) (hG : 56 ≤ G) {M : wS} {k wk bn N : Nat} (hk : k < 7) (h1 : M.1 30 0 18 = nI wk) (h2 : M.1 35 0 k = nI bn) (hw : wk ≤ 51) (hb : bn ≤ 51) (hN : N ≤ 103) (y0 : Nat) (hy : y0 ≤ 99) (Qf : Int32 → wS → Prop) : ∀ (n i : Nat), i + n = N → Qf (if 99 < nI (y0 + cntW wk bn N) then 99 else nI (y0 + cntW wk bn N)) M → V p l e (Rm d) s m args below meth c 5 D cy ad G (wA ad G) 0 0 (MQ below (wQ D cy ad G (rI Qf)) args s 0 0 (wA ad G)) 10 [(0, .ref (ad 30 0)), (1, .int (nI k)), (2, .int (nI N)), (3, .int (nI (y0 + cntW wk bn i))), (4, .int (nI (i + 1)))] [] M := by
  intro n
  induction n with
  | zero =>
    intro i hi hQ
    obtain rfl : i = N := by omega
    refine V_iload (pc := 10) C 4 dX10_yearsIn_10 rfl ?_
    refine V_iload_n (pc := 12) C 2 dX10_yearsIn_12 rfl rfl ?_
    refine V_icmp_gt (tgt := 49) (pc := 13) C dX10_yearsIn_13 (by decide) (fun h_13 => ?_) (fun h_13 => ?_)
    · refine V_iload_n (pc := 49) C 3 dX10_yearsIn_49 rfl rfl ?_
      refine V_bipush (v := 99) (pc := 50) C dX10_yearsIn_50 (by decide) ?_
      refine V_icmp_le (tgt := 60) (pc := 52) C dX10_yearsIn_52 (by decide) (fun h_52 => ?_) (fun h_52 => ?_)
      · refine V_iload_n (pc := 60) C 3 dX10_yearsIn_60 rfl rfl ?_
        refine V_iret (pc := 61) C hr hlk dX10_yearsIn_61 ⟨_, rfl, ?_⟩
        first | (rw [if_pos (Int32.not_le.mp h_52)] at hQ; exact hQ) | (rw [if_neg (Int32.not_lt.mpr h_52)] at hQ; exact hQ)
      · refine V_bipush (v := 99) (pc := 55) C dX10_yearsIn_55 (by decide) ?_
        refine V_goto (tgt := 61) (pc := 57) C dX10_yearsIn_57 (by decide) ?_
        refine V_iret (pc := 61) C hr hlk dX10_yearsIn_61 ⟨_, rfl, ?_⟩
        first | (rw [if_pos (Int32.not_le.mp h_52)] at hQ; exact hQ) | (rw [if_neg (Int32.not_lt.mpr h_52)] at hQ; exact hQ)
    · exact absurd (nI_lt (a := i) (b := i + 1) (by omega) (by omega)) h_13
  | succ n ih =>
    intro i hi hQ
    have hr := nI_rem52 (wk + (i + 1)) (by omega)
    have hrm : (wk + (i + 1)) % 52 < 52 := Nat.mod_lt _ (by decide)
    have hih := ih (i + 1) (by omega) hQ
    unfold cntW at hih
    refine V_iload (pc := 10) C 4 dX10_yearsIn_10 rfl ?_
    refine V_iload_n (pc := 12) C 2 dX10_yearsIn_12 rfl rfl ?_
    refine V_icmp_gt (tgt := 49) (pc := 13) C dX10_yearsIn_13 (by decide) (fun h_13 => ?_) (fun h_13 => ?_)
    · exact absurd h_13 (nI_nlt (by omega) (by omega))
    · refine V_iload_n (pc := 16) C 3 dX10_yearsIn_16 rfl rfl ?_
      refine V_aload_n (pc := 17) C 0 dX10_yearsIn_17 rfl rfl ?_
      refine get_X10_141 (pc := 18) C (wg hG (by decide) (by decide)) dX10_yearsIn_18 ?_
      refine V_iload (pc := 21) C 4 dX10_yearsIn_21 rfl ?_
      refine V_iadd (pc := 23) C dX10_yearsIn_23 ?_
      refine V_bipush (v := 52) (pc := 24) C dX10_yearsIn_24 (by decide) ?_
      refine V_irem (pc := 26) C dX10_yearsIn_26 (by decide) ?_
      refine V_aload_n (pc := 27) C 0 dX10_yearsIn_27 rfl rfl ?_
      refine get_X10_26 (pc := 28) C (wg hG (by decide) (by decide)) dX10_yearsIn_28 ?_
      refine V_iload_n (pc := 31) C 1 dX10_yearsIn_31 rfl rfl ?_
      refine V_iald (pc := 32) C (k) rfl hk (Nat.le_of_ble_eq_true rfl) (wg hG (by decide) (by decide)) wF_35 dX10_yearsIn_32 ?_
      rw [h1, h2, nI_add, hr]
      refine V_icmp_ne (tgt := 40) (pc := 33) C dX10_yearsIn_33 (by decide) (fun h_33 => ?_) (fun h_33 => ?_)
      · rw [nI_eq (by omega) (by omega)] at h_33
        rw [if_neg h_33] at hih
        refine V_iconst (v := 0) (pc := 40) C dX10_yearsIn_40 (by decide) ?_
        refine V_iadd (pc := 41) C dX10_yearsIn_41 ?_
        refine Vs_istore_n (lv' := [(0, _), (1, _), (2, _), (3, _), (4, _)]) (pc := 42) C dX10_yearsIn_42 rfl (by decide) rfl rfl ?_
        refine Vs_iinc (v := nI (i + 1 + 1)) (lv' := [(0, _), (1, _), (2, _), (3, _), (4, _)]) (pc := 43) C 4 dX10_yearsIn_43 rfl (by decide) rfl (nI_i1 (i + 1)) rfl ?_
        refine V_goto (tgt := 10) (pc := 46) C dX10_yearsIn_46 (by decide) ?_
        refine V_lv ?_ hih
        simp only [Nat.add_zero]
        exact congrArg (fun x => [(0, Value.ref (ad 30 0)), (1, Value.int (nI k)), (2, Value.int (nI N)), (3, Value.int x), (4, Value.int (nI (i + 1 + 1)))]) (Int32.add_zero _).symm
      · rw [nI_eq (by omega) (by omega)] at h_33
        rw [if_pos h_33, ← Nat.add_assoc] at hih
        refine V_iconst (v := 1) (pc := 36) C dX10_yearsIn_36 (by decide) ?_
        refine V_goto (tgt := 41) (pc := 37) C dX10_yearsIn_37 (by decide) ?_
        refine V_iadd (pc := 41) C dX10_yearsIn_41 ?_
        refine Vs_istore_n (lv' := [(0, _), (1, _), (2, _), (3, _), (4, _)]) (pc := 42) C dX10_yearsIn_42 rfl (by decide) rfl rfl ?_
        refine Vs_iinc (v := nI (i + 1 + 1)) (lv' := [(0, _), (1, _), (2, _), (3, _), (4, _)]) (pc := 43) C 4 dX10_yearsIn_43 rfl (by decide) rfl (nI_i1 (i + 1)) rfl ?_
        refine V_goto (tgt := 10) (pc := 46) C dX10_yearsIn_46 (by decide) ?_
        refine V_lv ?_ hih
        exact congrArg (fun x => [(0, Value.ref (ad 30 0)), (1, Value.int (nI k)), (2, Value.int (nI N)), (3, Value.int x), (4, Value.int (nI (i + 1 + 1)))]) (nI_1 _).symm
theorem c_X10_yearsIn (hG : 56 ≤ G) {M0 M : wS} {nb nt r e1 e2 e3 : Nat} (hC : rC M0 M nb nt r e1 e2 e3) {k : Nat} (hk : k < 7) {n : Int32} (hn : 0 ≤ n ∧ n ≤ 103) : Ctr l D cy ad G d yX10_yearsIn cX10_yearsIn 5 (some .int) [.ref (ad 30 0), .int (nI k), .int n] M (rI fun x M' => M' = M ∧ x = pAgeC (M0.1 5 k 1) (M0.1 27 0 k) (M0.1 26 0 4) n) := by
  obtain ⟨hP, hA, -⟩ := hC
  obtain ⟨wk, hw, ew⟩ := ix_of (n := 52) hP.2.2.2.2.1 (by have := hP.2.2.2.2.2; (simp only [i32_eq, Int32.le_iff_toInt_le, Int32.lt_iff_toInt_lt, Int32.not_le, Int32.not_lt, Int32.toInt_add, Int32.toInt_sub, Int32.toInt_mul, Int32.toInt_neg, Int32.toInt_div, tdv2, tdv4, tdv10, tdv52, tdv100, nI_T, apply_ite Int32.toInt, Int.bmod, Int32.reduceToInt] at *; omega)) (by decide)
  have hb0 := hP.2.2.2.1 k hk
  obtain ⟨bn, hb, eb⟩ := ix_of (n := 52) hb0.2.1.1 (by have := hb0.2.1.2; (simp only [i32_eq, Int32.le_iff_toInt_le, Int32.lt_iff_toInt_lt, Int32.not_le, Int32.not_lt, Int32.toInt_add, Int32.toInt_sub, Int32.toInt_mul, Int32.toInt_neg, Int32.toInt_div, tdv2, tdv4, tdv10, tdv52, tdv100, nI_T, apply_ite Int32.toInt, Int.bmod, Int32.reduceToInt] at *; omega)) (by decide)
  obtain ⟨y, hy, ey⟩ := ix_of (n := 100) hb0.2.2.2.1.1 (by have := hb0.2.2.2.1.2; (simp only [i32_eq, Int32.le_iff_toInt_le, Int32.lt_iff_toInt_lt, Int32.not_le, Int32.not_lt, Int32.toInt_add, Int32.toInt_sub, Int32.toInt_mul, Int32.toInt_neg, Int32.toInt_div, tdv2, tdv4, tdv10, tdv52, tdv100, nI_T, apply_ite Int32.toInt, Int.bmod, Int32.reduceToInt] at *; omega)) (by decide)
  obtain ⟨N, hN, rfl⟩ := ix_of (n := 104) hn.1 (by have := hn.2; (simp only [i32_eq, Int32.le_iff_toInt_le, Int32.lt_iff_toInt_lt, Int32.not_le, Int32.not_lt, Int32.toInt_add, Int32.toInt_sub, Int32.toInt_mul, Int32.toInt_neg, Int32.toInt_div, tdv2, tdv4, tdv10, tdv52, tdv100, nI_T, apply_ite Int32.toInt, Int.bmod, Int32.reduceToInt] at *; omega)) (by decide)
  have a1 := (hA.2.2 k hk).1
  have hag := ageC_nat (wk := wk) (bn := bn) (y := y) (n := N) (by omega) (by omega) (by omega) (by omega)
  refine Ctr.of (lv0 := [(0, _), (1, _), (2, _)]) (by decide) (Nat.le_of_ble_eq_true rfl) rfl ?_
  intro p e s m args below meth c C hr hlk _
  have C : CX p s m args c cX10_yearsIn 5 "CostsAgeModel" D cy ad G (wA ad G) (Rm d) d 0 0 := C
  refine V_aload_n (pc := 0) C 0 dX10_yearsIn_0 rfl rfl ?_
  refine get_X10_29 (pc := 1) C (wg hG (by decide) (by decide)) dX10_yearsIn_1 ?_
  refine V_iload_n (pc := 4) C 1 dX10_yearsIn_4 rfl rfl ?_
  refine V_iald (pc := 5) C (k) rfl hk (Nat.le_of_ble_eq_true rfl) (wg hG (by decide) (by decide)) wF_36 dX10_yearsIn_5 ?_
  rw [a1.2.2.1, ey]
  refine Vs_istore_n (lv' := [(0, _), (1, _), (2, _), (3, _)]) (pc := 6) C dX10_yearsIn_6 rfl (by decide) rfl rfl ?_
  refine V_iconst (v := 1) (pc := 7) C dX10_yearsIn_7 (by decide) ?_
  refine Vs_istore (lv' := [(0, _), (1, _), (2, _), (3, _), (4, _)]) (pc := 8) C dX10_yearsIn_8 (by decide) rfl rfl ?_
  exact lp_X10_yearsIn C hr hlk hG hk (hA.2.1.2.1.trans ew) (a1.2.1.trans eb) (by omega) (by omega) (by omega) y (by omega) _ N 0 (by omega) ⟨rfl, by rw [ew, eb, hag]⟩
theorem el_nn : ∀ y, y < 100 → 0 ≤ pElder (nI y) ∧ 0 ≤ pChild (nI y) ∧ 0 ≤ pChild (nI y) * 2 ∧ 0 ≤ pChild (nI y) + 1 := by decide +kernel
theorem pP0 (n y w : Int32) : pPence (nI 0) n y w = y := by unfold pPence; rw [if_neg (by decide), if_neg (by decide), if_neg (by decide), if_neg (by decide), if_neg (by decide)]
theorem pP1 (n y w : Int32) : pPence (nI 1) n y w = pChild y := by unfold pPence; rw [if_pos (by decide)]
theorem pP2 (n y w : Int32) : pPence (nI 2) n y w = pElder y := by unfold pPence; rw [if_neg (by decide), if_pos (by decide)]
theorem pP3 (n y w : Int32) : pPence (nI 3) n y w = 2 * pChild y := by unfold pPence; rw [if_neg (by decide), if_neg (by decide), if_pos (by decide)]
theorem pP4 (n y w : Int32) : pPence (nI 4) n y w = if w - w / 4 * 4 = n - n / 4 * 4 then pChild y + 1 else pChild y := by unfold pPence; rw [if_neg (by decide), if_neg (by decide), if_neg (by decide), if_pos (by decide)]
theorem pP5 (n y w : Int32) : pPence (nI 5) n y w = if pElder y - n < 0 then 0 else pElder y - n := by unfold pPence; rw [if_neg (by decide), if_neg (by decide), if_neg (by decide), if_neg (by decide), if_pos (by decide)]
theorem pence_0 (hG : 56 ≤ G) {M : wS} {k : Nat} (hk : k < 7) {num : Int32} (h1 : M.1 34 0 k = nI 0) (h2 : M.1 38 0 k = num) {yn : Nat} (hy : yn < 100) (w : Int32) : Ctr l D cy ad G d yX10_pence cX10_pence 6 (some .int) [.ref (ad 30 0), .int (nI k), .int (nI yn), .int w] M (rI fun x M' => M' = M ∧ x = pPence (nI 0) num (nI yn) w) := by
  have hnn := el_nn yn hy
  refine Ctr.of (lv0 := [(0, _), (1, _), (2, _), (3, _)]) (by decide) (Nat.le_of_ble_eq_true rfl) rfl ?_
  intro p e s m args below meth c C hr hlk _
  have C : CX p s m args c cX10_pence 6 "CostsAgeModel" D cy ad G (wA ad G) (Rm d) d 0 0 := C
  refine V_aload_n (pc := 0) C 0 dX10_pence_0 rfl rfl ?_
  refine get_X10_23 (pc := 1) C (wg hG (by decide) (by decide)) dX10_pence_1 ?_
  refine V_iload_n (pc := 4) C 1 dX10_pence_4 rfl rfl ?_
  refine V_iald (pc := 5) C (k) rfl hk (Nat.le_of_ble_eq_true rfl) (wg hG (by decide) (by decide)) wF_34 dX10_pence_5 ?_
  rw [h1]
  refine Vs_istore (lv' := [(0, _), (1, _), (2, _), (3, _), (4, _)]) (pc := 6) C dX10_pence_6 (by decide) rfl rfl ?_
  refine V_iload_n (pc := 8) C 2 dX10_pence_8 rfl rfl ?_
  refine Vs_istore (lv' := [(0, _), (1, _), (2, _), (3, _), (4, _), (5, _)]) (pc := 9) C dX10_pence_9 (by decide) rfl rfl ?_
  refine V_iload (pc := 11) C 4 dX10_pence_11 rfl ?_
  refine V_iconst (v := 1) (pc := 13) C dX10_pence_13 (by decide) ?_
  refine V_icmp_eq (tgt := 29) (pc := 14) C dX10_pence_14 (by decide) (fun h_14 => ?_) (fun h_14 => ?_)
  · first | exact absurd h_14 (by decide) | exact absurd (by decide) h_14
  · refine V_iload (pc := 17) C 4 dX10_pence_17 rfl ?_
    refine V_iconst (v := 3) (pc := 19) C dX10_pence_19 (by decide) ?_
    refine V_icmp_eq (tgt := 29) (pc := 20) C dX10_pence_20 (by decide) (fun h_20 => ?_) (fun h_20 => ?_)
    · first | exact absurd h_20 (by decide) | exact absurd (by decide) h_20
    · refine V_iload (pc := 23) C 4 dX10_pence_23 rfl ?_
      refine V_iconst (v := 4) (pc := 25) C dX10_pence_25 (by decide) ?_
      refine V_icmp_ne (tgt := 79) (pc := 26) C dX10_pence_26 (by decide) (fun h_26 => ?_) (fun h_26 => ?_)
      · refine V_iload (pc := 79) C 4 dX10_pence_79 rfl ?_
        refine V_if_eq (tgt := 121) (pc := 81) C dX10_pence_81 (by decide) (fun h_81 => ?_) (fun h_81 => ?_)
        · refine V_iload (pc := 121) C 5 dX10_pence_121 rfl ?_
          refine V_if_ge (tgt := 130) (pc := 123) C dX10_pence_123 (by decide) (fun h_123 => ?_) (fun h_123 => ?_)
          · refine V_iload (pc := 130) C 5 dX10_pence_130 rfl ?_
            refine V_iret (pc := 132) C hr hlk dX10_pence_132 ⟨_, rfl, ?_⟩
            exact ⟨rfl, by rw [pP0]⟩
          · exact absurd (nI_pos' (by omega)) h_123
        · first | exact absurd h_81 (by decide) | exact absurd (by decide) h_81
      · first | exact absurd h_26 (by decide) | exact absurd (by decide) h_26
theorem pence_1 (hG : 56 ≤ G) {M : wS} {k : Nat} (hk : k < 7) {num : Int32} (h1 : M.1 34 0 k = nI 1) (h2 : M.1 38 0 k = num) {yn : Nat} (hy : yn < 100) (w : Int32) : Ctr l D cy ad G d yX10_pence cX10_pence 6 (some .int) [.ref (ad 30 0), .int (nI k), .int (nI yn), .int w] M (rI fun x M' => M' = M ∧ x = pPence (nI 1) num (nI yn) w) := by
  have hnn := el_nn yn hy
  refine Ctr.of (lv0 := [(0, _), (1, _), (2, _), (3, _)]) (by decide) (Nat.le_of_ble_eq_true rfl) rfl ?_
  intro p e s m args below meth c C hr hlk _
  have C : CX p s m args c cX10_pence 6 "CostsAgeModel" D cy ad G (wA ad G) (Rm d) d 0 0 := C
  refine V_aload_n (pc := 0) C 0 dX10_pence_0 rfl rfl ?_
  refine get_X10_23 (pc := 1) C (wg hG (by decide) (by decide)) dX10_pence_1 ?_
  refine V_iload_n (pc := 4) C 1 dX10_pence_4 rfl rfl ?_
  refine V_iald (pc := 5) C (k) rfl hk (Nat.le_of_ble_eq_true rfl) (wg hG (by decide) (by decide)) wF_34 dX10_pence_5 ?_
  rw [h1]
  refine Vs_istore (lv' := [(0, _), (1, _), (2, _), (3, _), (4, _)]) (pc := 6) C dX10_pence_6 (by decide) rfl rfl ?_
  refine V_iload_n (pc := 8) C 2 dX10_pence_8 rfl rfl ?_
  refine Vs_istore (lv' := [(0, _), (1, _), (2, _), (3, _), (4, _), (5, _)]) (pc := 9) C dX10_pence_9 (by decide) rfl rfl ?_
  refine V_iload (pc := 11) C 4 dX10_pence_11 rfl ?_
  refine V_iconst (v := 1) (pc := 13) C dX10_pence_13 (by decide) ?_
  refine V_icmp_eq (tgt := 29) (pc := 14) C dX10_pence_14 (by decide) (fun h_14 => ?_) (fun h_14 => ?_)
  · refine V_iload_n (pc := 29) C 2 dX10_pence_29 rfl rfl ?_
    refine V_iconst (v := 3) (pc := 30) C dX10_pence_30 (by decide) ?_
    refine V_icmp_ge (tgt := 38) (pc := 31) C dX10_pence_31 (by decide) (fun h_31 => ?_) (fun h_31 => ?_)
    · have hch : nI yn = pChild (nI yn) := (if_neg (Int32.not_lt.mpr h_31)).symm
      refine V_iload_n (pc := 38) C 2 dX10_pence_38 rfl rfl ?_
      refine Vs_istore (lv' := [(0, _), (1, _), (2, _), (3, _), (4, _), (5, _)]) (pc := 39) C dX10_pence_39 (by decide) rfl rfl ?_
      refine V_iload (pc := 41) C 4 dX10_pence_41 rfl ?_
      refine V_iconst (v := 3) (pc := 43) C dX10_pence_43 (by decide) ?_
      refine V_icmp_ne (tgt := 53) (pc := 44) C dX10_pence_44 (by decide) (fun h_44 => ?_) (fun h_44 => ?_)
      · refine V_iload (pc := 53) C 4 dX10_pence_53 rfl ?_
        refine V_iconst (v := 4) (pc := 55) C dX10_pence_55 (by decide) ?_
        refine V_icmp_ne (tgt := 121) (pc := 56) C dX10_pence_56 (by decide) (fun h_56 => ?_) (fun h_56 => ?_)
        · refine V_iload (pc := 121) C 5 dX10_pence_121 rfl ?_
          refine V_if_ge (tgt := 130) (pc := 123) C dX10_pence_123 (by decide) (fun h_123 => ?_) (fun h_123 => ?_)
          · refine V_iload (pc := 130) C 5 dX10_pence_130 rfl ?_
            refine V_iret (pc := 132) C hr hlk dX10_pence_132 ⟨_, rfl, ?_⟩
            exact ⟨rfl, by rw [pP1, ← hch]⟩
          · rw [hch] at h_123
            exact absurd hnn.2.1 h_123
        · first | exact absurd h_56 (by decide) | exact absurd (by decide) h_56
      · first | exact absurd h_44 (by decide) | exact absurd (by decide) h_44
    · have hch : 3 = pChild (nI yn) := (if_pos (Int32.not_le.mp h_31)).symm
      refine V_iconst (v := 3) (pc := 34) C dX10_pence_34 (by decide) ?_
      refine V_goto (tgt := 39) (pc := 35) C dX10_pence_35 (by decide) ?_
      refine Vs_istore (lv' := [(0, _), (1, _), (2, _), (3, _), (4, _), (5, _)]) (pc := 39) C dX10_pence_39 (by decide) rfl rfl ?_
      refine V_iload (pc := 41) C 4 dX10_pence_41 rfl ?_
      refine V_iconst (v := 3) (pc := 43) C dX10_pence_43 (by decide) ?_
      refine V_icmp_ne (tgt := 53) (pc := 44) C dX10_pence_44 (by decide) (fun h_44 => ?_) (fun h_44 => ?_)
      · refine V_iload (pc := 53) C 4 dX10_pence_53 rfl ?_
        refine V_iconst (v := 4) (pc := 55) C dX10_pence_55 (by decide) ?_
        refine V_icmp_ne (tgt := 121) (pc := 56) C dX10_pence_56 (by decide) (fun h_56 => ?_) (fun h_56 => ?_)
        · refine V_iload (pc := 121) C 5 dX10_pence_121 rfl ?_
          refine V_if_ge (tgt := 130) (pc := 123) C dX10_pence_123 (by decide) (fun _ => ?_) (fun h => absurd (by decide) h)
          refine V_iload (pc := 130) C 5 dX10_pence_130 rfl ?_
          refine V_iret (pc := 132) C hr hlk dX10_pence_132 ⟨_, rfl, ?_⟩
          exact ⟨rfl, by rw [pP1, ← hch]⟩
        · first | exact absurd h_56 (by decide) | exact absurd (by decide) h_56
      · first | exact absurd h_44 (by decide) | exact absurd (by decide) h_44
  · first | exact absurd h_14 (by decide) | exact absurd (by decide) h_14
theorem pence_2 (hG : 56 ≤ G) {M : wS} {k : Nat} (hk : k < 7) {num : Int32} (h1 : M.1 34 0 k = nI 2) (h2 : M.1 38 0 k = num) {yn : Nat} (hy : yn < 100) (w : Int32) : Ctr l D cy ad G d yX10_pence cX10_pence 6 (some .int) [.ref (ad 30 0), .int (nI k), .int (nI yn), .int w] M (rI fun x M' => M' = M ∧ x = pPence (nI 2) num (nI yn) w) := by
  have hnn := el_nn yn hy
  refine Ctr.of (lv0 := [(0, _), (1, _), (2, _), (3, _)]) (by decide) (Nat.le_of_ble_eq_true rfl) rfl ?_
  intro p e s m args below meth c C hr hlk _
  have C : CX p s m args c cX10_pence 6 "CostsAgeModel" D cy ad G (wA ad G) (Rm d) d 0 0 := C
  refine V_aload_n (pc := 0) C 0 dX10_pence_0 rfl rfl ?_
  refine get_X10_23 (pc := 1) C (wg hG (by decide) (by decide)) dX10_pence_1 ?_
  refine V_iload_n (pc := 4) C 1 dX10_pence_4 rfl rfl ?_
  refine V_iald (pc := 5) C (k) rfl hk (Nat.le_of_ble_eq_true rfl) (wg hG (by decide) (by decide)) wF_34 dX10_pence_5 ?_
  rw [h1]
  refine Vs_istore (lv' := [(0, _), (1, _), (2, _), (3, _), (4, _)]) (pc := 6) C dX10_pence_6 (by decide) rfl rfl ?_
  refine V_iload_n (pc := 8) C 2 dX10_pence_8 rfl rfl ?_
  refine Vs_istore (lv' := [(0, _), (1, _), (2, _), (3, _), (4, _), (5, _)]) (pc := 9) C dX10_pence_9 (by decide) rfl rfl ?_
  refine V_iload (pc := 11) C 4 dX10_pence_11 rfl ?_
  refine V_iconst (v := 1) (pc := 13) C dX10_pence_13 (by decide) ?_
  refine V_icmp_eq (tgt := 29) (pc := 14) C dX10_pence_14 (by decide) (fun h_14 => ?_) (fun h_14 => ?_)
  · first | exact absurd h_14 (by decide) | exact absurd (by decide) h_14
  · refine V_iload (pc := 17) C 4 dX10_pence_17 rfl ?_
    refine V_iconst (v := 3) (pc := 19) C dX10_pence_19 (by decide) ?_
    refine V_icmp_eq (tgt := 29) (pc := 20) C dX10_pence_20 (by decide) (fun h_20 => ?_) (fun h_20 => ?_)
    · first | exact absurd h_20 (by decide) | exact absurd (by decide) h_20
    · refine V_iload (pc := 23) C 4 dX10_pence_23 rfl ?_
      refine V_iconst (v := 4) (pc := 25) C dX10_pence_25 (by decide) ?_
      refine V_icmp_ne (tgt := 79) (pc := 26) C dX10_pence_26 (by decide) (fun h_26 => ?_) (fun h_26 => ?_)
      · refine V_iload (pc := 79) C 4 dX10_pence_79 rfl ?_
        refine V_if_eq (tgt := 121) (pc := 81) C dX10_pence_81 (by decide) (fun h_81 => ?_) (fun h_81 => ?_)
        · first | exact absurd h_81 (by decide) | exact absurd (by decide) h_81
        · refine V_iload_n (pc := 84) C 2 dX10_pence_84 rfl rfl ?_
          refine V_bipush (v := 60) (pc := 85) C dX10_pence_85 (by decide) ?_
          refine V_icmp_le (tgt := 101) (pc := 87) C dX10_pence_87 (by decide) (fun h_87 => ?_) (fun h_87 => ?_)
          · have hel : nI yn = pElder (nI yn) := (if_neg (Int32.not_lt.mpr h_87)).symm
            refine V_iload_n (pc := 101) C 2 dX10_pence_101 rfl rfl ?_
            refine Vs_istore (lv' := [(0, _), (1, _), (2, _), (3, _), (4, _), (5, _)]) (pc := 102) C dX10_pence_102 (by decide) rfl rfl ?_
            refine V_iload (pc := 104) C 4 dX10_pence_104 rfl ?_
            refine V_iconst (v := 5) (pc := 106) C dX10_pence_106 (by decide) ?_
            refine V_icmp_ne (tgt := 121) (pc := 107) C dX10_pence_107 (by decide) (fun h_107 => ?_) (fun h_107 => ?_)
            · refine V_iload (pc := 121) C 5 dX10_pence_121 rfl ?_
              refine V_if_ge (tgt := 130) (pc := 123) C dX10_pence_123 (by decide) (fun h_123 => ?_) (fun h_123 => ?_)
              · refine V_iload (pc := 130) C 5 dX10_pence_130 rfl ?_
                refine V_iret (pc := 132) C hr hlk dX10_pence_132 ⟨_, rfl, ?_⟩
                exact ⟨rfl, by rw [pP2, ← hel]⟩
              · rw [hel] at h_123
                exact absurd hnn.1 h_123
            · first | exact absurd h_107 (by decide) | exact absurd (by decide) h_107
          · have hel : nI yn - (nI yn - 60) / 2 = pElder (nI yn) := (if_pos (Int32.not_le.mp h_87)).symm
            refine V_iload_n (pc := 90) C 2 dX10_pence_90 rfl rfl ?_
            refine V_iload_n (pc := 91) C 2 dX10_pence_91 rfl rfl ?_
            refine V_bipush (v := 60) (pc := 92) C dX10_pence_92 (by decide) ?_
            refine V_isub (pc := 94) C dX10_pence_94 ?_
            refine V_iconst (v := 2) (pc := 95) C dX10_pence_95 (by decide) ?_
            refine V_idiv (pc := 96) C dX10_pence_96 (by decide) ?_
            refine V_isub (pc := 97) C dX10_pence_97 ?_
            refine V_goto (tgt := 102) (pc := 98) C dX10_pence_98 (by decide) ?_
            refine Vs_istore (lv' := [(0, _), (1, _), (2, _), (3, _), (4, _), (5, _)]) (pc := 102) C dX10_pence_102 (by decide) rfl rfl ?_
            refine V_iload (pc := 104) C 4 dX10_pence_104 rfl ?_
            refine V_iconst (v := 5) (pc := 106) C dX10_pence_106 (by decide) ?_
            refine V_icmp_ne (tgt := 121) (pc := 107) C dX10_pence_107 (by decide) (fun h_107 => ?_) (fun h_107 => ?_)
            · refine V_iload (pc := 121) C 5 dX10_pence_121 rfl ?_
              refine V_if_ge (tgt := 130) (pc := 123) C dX10_pence_123 (by decide) (fun h_123 => ?_) (fun h_123 => ?_)
              · refine V_iload (pc := 130) C 5 dX10_pence_130 rfl ?_
                refine V_iret (pc := 132) C hr hlk dX10_pence_132 ⟨_, rfl, ?_⟩
                exact ⟨rfl, by rw [pP2, ← hel]⟩
              · rw [hel] at h_123
                exact absurd hnn.1 h_123
            · first | exact absurd h_107 (by decide) | exact absurd (by decide) h_107
      · first | exact absurd h_26 (by decide) | exact absurd (by decide) h_26
theorem pence_3 (hG : 56 ≤ G) {M : wS} {k : Nat} (hk : k < 7) {num : Int32} (h1 : M.1 34 0 k = nI 3) (h2 : M.1 38 0 k = num) {yn : Nat} (hy : yn < 100) (w : Int32) : Ctr l D cy ad G d yX10_pence cX10_pence 6 (some .int) [.ref (ad 30 0), .int (nI k), .int (nI yn), .int w] M (rI fun x M' => M' = M ∧ x = pPence (nI 3) num (nI yn) w) := by
  have hnn := el_nn yn hy
  refine Ctr.of (lv0 := [(0, _), (1, _), (2, _), (3, _)]) (by decide) (Nat.le_of_ble_eq_true rfl) rfl ?_
  intro p e s m args below meth c C hr hlk _
  have C : CX p s m args c cX10_pence 6 "CostsAgeModel" D cy ad G (wA ad G) (Rm d) d 0 0 := C
  refine V_aload_n (pc := 0) C 0 dX10_pence_0 rfl rfl ?_
  refine get_X10_23 (pc := 1) C (wg hG (by decide) (by decide)) dX10_pence_1 ?_
  refine V_iload_n (pc := 4) C 1 dX10_pence_4 rfl rfl ?_
  refine V_iald (pc := 5) C (k) rfl hk (Nat.le_of_ble_eq_true rfl) (wg hG (by decide) (by decide)) wF_34 dX10_pence_5 ?_
  rw [h1]
  refine Vs_istore (lv' := [(0, _), (1, _), (2, _), (3, _), (4, _)]) (pc := 6) C dX10_pence_6 (by decide) rfl rfl ?_
  refine V_iload_n (pc := 8) C 2 dX10_pence_8 rfl rfl ?_
  refine Vs_istore (lv' := [(0, _), (1, _), (2, _), (3, _), (4, _), (5, _)]) (pc := 9) C dX10_pence_9 (by decide) rfl rfl ?_
  refine V_iload (pc := 11) C 4 dX10_pence_11 rfl ?_
  refine V_iconst (v := 1) (pc := 13) C dX10_pence_13 (by decide) ?_
  refine V_icmp_eq (tgt := 29) (pc := 14) C dX10_pence_14 (by decide) (fun h_14 => ?_) (fun h_14 => ?_)
  · first | exact absurd h_14 (by decide) | exact absurd (by decide) h_14
  · refine V_iload (pc := 17) C 4 dX10_pence_17 rfl ?_
    refine V_iconst (v := 3) (pc := 19) C dX10_pence_19 (by decide) ?_
    refine V_icmp_eq (tgt := 29) (pc := 20) C dX10_pence_20 (by decide) (fun h_20 => ?_) (fun h_20 => ?_)
    · refine V_iload_n (pc := 29) C 2 dX10_pence_29 rfl rfl ?_
      refine V_iconst (v := 3) (pc := 30) C dX10_pence_30 (by decide) ?_
      refine V_icmp_ge (tgt := 38) (pc := 31) C dX10_pence_31 (by decide) (fun h_31 => ?_) (fun h_31 => ?_)
      · have hch : nI yn = pChild (nI yn) := (if_neg (Int32.not_lt.mpr h_31)).symm
        refine V_iload_n (pc := 38) C 2 dX10_pence_38 rfl rfl ?_
        refine Vs_istore (lv' := [(0, _), (1, _), (2, _), (3, _), (4, _), (5, _)]) (pc := 39) C dX10_pence_39 (by decide) rfl rfl ?_
        refine V_iload (pc := 41) C 4 dX10_pence_41 rfl ?_
        refine V_iconst (v := 3) (pc := 43) C dX10_pence_43 (by decide) ?_
        refine V_icmp_ne (tgt := 53) (pc := 44) C dX10_pence_44 (by decide) (fun h_44 => ?_) (fun h_44 => ?_)
        · first | exact absurd h_44 (by decide) | exact absurd (by decide) h_44
        · refine V_iload (pc := 47) C 5 dX10_pence_47 rfl ?_
          refine V_iconst (v := 2) (pc := 49) C dX10_pence_49 (by decide) ?_
          refine V_imul (pc := 50) C dX10_pence_50 ?_
          refine Vs_istore (lv' := [(0, _), (1, _), (2, _), (3, _), (4, _), (5, _)]) (pc := 51) C dX10_pence_51 (by decide) rfl rfl ?_
          refine V_iload (pc := 53) C 4 dX10_pence_53 rfl ?_
          refine V_iconst (v := 4) (pc := 55) C dX10_pence_55 (by decide) ?_
          refine V_icmp_ne (tgt := 121) (pc := 56) C dX10_pence_56 (by decide) (fun h_56 => ?_) (fun h_56 => ?_)
          · refine V_iload (pc := 121) C 5 dX10_pence_121 rfl ?_
            refine V_if_ge (tgt := 130) (pc := 123) C dX10_pence_123 (by decide) (fun h_123 => ?_) (fun h_123 => ?_)
            · refine V_iload (pc := 130) C 5 dX10_pence_130 rfl ?_
              refine V_iret (pc := 132) C hr hlk dX10_pence_132 ⟨_, rfl, ?_⟩
              exact ⟨rfl, by rw [pP3, ← hch]; exact Int32.mul_comm _ _⟩
            · rw [hch] at h_123
              exact absurd hnn.2.2.1 h_123
          · first | exact absurd h_56 (by decide) | exact absurd (by decide) h_56
      · have hch : 3 = pChild (nI yn) := (if_pos (Int32.not_le.mp h_31)).symm
        refine V_iconst (v := 3) (pc := 34) C dX10_pence_34 (by decide) ?_
        refine V_goto (tgt := 39) (pc := 35) C dX10_pence_35 (by decide) ?_
        refine Vs_istore (lv' := [(0, _), (1, _), (2, _), (3, _), (4, _), (5, _)]) (pc := 39) C dX10_pence_39 (by decide) rfl rfl ?_
        refine V_iload (pc := 41) C 4 dX10_pence_41 rfl ?_
        refine V_iconst (v := 3) (pc := 43) C dX10_pence_43 (by decide) ?_
        refine V_icmp_ne (tgt := 53) (pc := 44) C dX10_pence_44 (by decide) (fun h_44 => ?_) (fun h_44 => ?_)
        · first | exact absurd h_44 (by decide) | exact absurd (by decide) h_44
        · refine V_iload (pc := 47) C 5 dX10_pence_47 rfl ?_
          refine V_iconst (v := 2) (pc := 49) C dX10_pence_49 (by decide) ?_
          refine V_imul (pc := 50) C dX10_pence_50 ?_
          refine Vs_istore (lv' := [(0, _), (1, _), (2, _), (3, _), (4, _), (5, _)]) (pc := 51) C dX10_pence_51 (by decide) rfl rfl ?_
          refine V_iload (pc := 53) C 4 dX10_pence_53 rfl ?_
          refine V_iconst (v := 4) (pc := 55) C dX10_pence_55 (by decide) ?_
          refine V_icmp_ne (tgt := 121) (pc := 56) C dX10_pence_56 (by decide) (fun h_56 => ?_) (fun h_56 => ?_)
          · refine V_iload (pc := 121) C 5 dX10_pence_121 rfl ?_
            refine V_if_ge (tgt := 130) (pc := 123) C dX10_pence_123 (by decide) (fun h_123 => ?_) (fun h_123 => ?_)
            · refine V_iload (pc := 130) C 5 dX10_pence_130 rfl ?_
              refine V_iret (pc := 132) C hr hlk dX10_pence_132 ⟨_, rfl, ?_⟩
              exact ⟨rfl, by rw [pP3, ← hch]; exact Int32.mul_comm _ _⟩
            · rw [hch] at h_123
              exact absurd hnn.2.2.1 h_123
          · first | exact absurd h_56 (by decide) | exact absurd (by decide) h_56
    · first | exact absurd h_20 (by decide) | exact absurd (by decide) h_20
theorem pence_4 (hG : 56 ≤ G) {M : wS} {k : Nat} (hk : k < 7) {num : Int32} (h1 : M.1 34 0 k = nI 4) (h2 : M.1 38 0 k = num) {yn : Nat} (hy : yn < 100) (w : Int32) : Ctr l D cy ad G d yX10_pence cX10_pence 6 (some .int) [.ref (ad 30 0), .int (nI k), .int (nI yn), .int w] M (rI fun x M' => M' = M ∧ x = pPence (nI 4) num (nI yn) w) := by
  have hnn := el_nn yn hy
  refine Ctr.of (lv0 := [(0, _), (1, _), (2, _), (3, _)]) (by decide) (Nat.le_of_ble_eq_true rfl) rfl ?_
  intro p e s m args below meth c C hr hlk _
  have C : CX p s m args c cX10_pence 6 "CostsAgeModel" D cy ad G (wA ad G) (Rm d) d 0 0 := C
  refine V_aload_n (pc := 0) C 0 dX10_pence_0 rfl rfl ?_
  refine get_X10_23 (pc := 1) C (wg hG (by decide) (by decide)) dX10_pence_1 ?_
  refine V_iload_n (pc := 4) C 1 dX10_pence_4 rfl rfl ?_
  refine V_iald (pc := 5) C (k) rfl hk (Nat.le_of_ble_eq_true rfl) (wg hG (by decide) (by decide)) wF_34 dX10_pence_5 ?_
  rw [h1]
  refine Vs_istore (lv' := [(0, _), (1, _), (2, _), (3, _), (4, _)]) (pc := 6) C dX10_pence_6 (by decide) rfl rfl ?_
  refine V_iload_n (pc := 8) C 2 dX10_pence_8 rfl rfl ?_
  refine Vs_istore (lv' := [(0, _), (1, _), (2, _), (3, _), (4, _), (5, _)]) (pc := 9) C dX10_pence_9 (by decide) rfl rfl ?_
  refine V_iload (pc := 11) C 4 dX10_pence_11 rfl ?_
  refine V_iconst (v := 1) (pc := 13) C dX10_pence_13 (by decide) ?_
  refine V_icmp_eq (tgt := 29) (pc := 14) C dX10_pence_14 (by decide) (fun h_14 => ?_) (fun h_14 => ?_)
  · first | exact absurd h_14 (by decide) | exact absurd (by decide) h_14
  · refine V_iload (pc := 17) C 4 dX10_pence_17 rfl ?_
    refine V_iconst (v := 3) (pc := 19) C dX10_pence_19 (by decide) ?_
    refine V_icmp_eq (tgt := 29) (pc := 20) C dX10_pence_20 (by decide) (fun h_20 => ?_) (fun h_20 => ?_)
    · first | exact absurd h_20 (by decide) | exact absurd (by decide) h_20
    · refine V_iload (pc := 23) C 4 dX10_pence_23 rfl ?_
      refine V_iconst (v := 4) (pc := 25) C dX10_pence_25 (by decide) ?_
      refine V_icmp_ne (tgt := 79) (pc := 26) C dX10_pence_26 (by decide) (fun h_26 => ?_) (fun h_26 => ?_)
      · first | exact absurd h_26 (by decide) | exact absurd (by decide) h_26
      · refine V_iload_n (pc := 29) C 2 dX10_pence_29 rfl rfl ?_
        refine V_iconst (v := 3) (pc := 30) C dX10_pence_30 (by decide) ?_
        refine V_icmp_ge (tgt := 38) (pc := 31) C dX10_pence_31 (by decide) (fun h_31 => ?_) (fun h_31 => ?_)
        · have hch : nI yn = pChild (nI yn) := (if_neg (Int32.not_lt.mpr h_31)).symm
          refine V_iload_n (pc := 38) C 2 dX10_pence_38 rfl rfl ?_
          refine Vs_istore (lv' := [(0, _), (1, _), (2, _), (3, _), (4, _), (5, _)]) (pc := 39) C dX10_pence_39 (by decide) rfl rfl ?_
          refine V_iload (pc := 41) C 4 dX10_pence_41 rfl ?_
          refine V_iconst (v := 3) (pc := 43) C dX10_pence_43 (by decide) ?_
          refine V_icmp_ne (tgt := 53) (pc := 44) C dX10_pence_44 (by decide) (fun h_44 => ?_) (fun h_44 => ?_)
          · refine V_iload (pc := 53) C 4 dX10_pence_53 rfl ?_
            refine V_iconst (v := 4) (pc := 55) C dX10_pence_55 (by decide) ?_
            refine V_icmp_ne (tgt := 121) (pc := 56) C dX10_pence_56 (by decide) (fun h_56 => ?_) (fun h_56 => ?_)
            · first | exact absurd h_56 (by decide) | exact absurd (by decide) h_56
            · refine V_iload_n (pc := 59) C 3 dX10_pence_59 rfl rfl ?_
              refine V_iconst (v := 4) (pc := 60) C dX10_pence_60 (by decide) ?_
              refine V_irem (pc := 61) C dX10_pence_61 (by decide) ?_
              refine V_aload_n (pc := 62) C 0 dX10_pence_62 rfl rfl ?_
              refine get_X10_35 (pc := 63) C (wg hG (by decide) (by decide)) dX10_pence_63 ?_
              refine V_iload_n (pc := 66) C 1 dX10_pence_66 rfl rfl ?_
              refine V_iald (pc := 67) C (k) rfl hk (Nat.le_of_ble_eq_true rfl) (wg hG (by decide) (by decide)) wF_38 dX10_pence_67 ?_
              refine V_iconst (v := 4) (pc := 68) C dX10_pence_68 (by decide) ?_
              refine V_irem (pc := 69) C dX10_pence_69 (by decide) ?_
              rw [h2]
              refine V_icmp_ne (tgt := 121) (pc := 70) C dX10_pence_70 (by decide) (fun h_70 => ?_) (fun h_70 => ?_)
              · refine V_iload (pc := 121) C 5 dX10_pence_121 rfl ?_
                refine V_if_ge (tgt := 130) (pc := 123) C dX10_pence_123 (by decide) (fun h_123 => ?_) (fun h_123 => ?_)
                · refine V_iload (pc := 130) C 5 dX10_pence_130 rfl ?_
                  refine V_iret (pc := 132) C hr hlk dX10_pence_132 ⟨_, rfl, ?_⟩
                  first | exact ⟨rfl, by rw [pP4, if_neg h_70, ← hch]⟩ | exact ⟨rfl, by rw [pP4, if_pos h_70, ← hch]; rfl⟩
                · rw [hch] at h_123
                  first | exact absurd hnn.2.1 h_123 | exact absurd hnn.2.2.2 h_123
              · refine Vs_iinc (lv' := [(0, _), (1, _), (2, _), (3, _), (4, _), (5, _)]) (pc := 73) C 5 dX10_pence_73 rfl (by decide) rfl rfl rfl ?_
                refine V_goto (tgt := 121) (pc := 76) C dX10_pence_76 (by decide) ?_
                refine V_iload (pc := 121) C 5 dX10_pence_121 rfl ?_
                refine V_if_ge (tgt := 130) (pc := 123) C dX10_pence_123 (by decide) (fun h_123 => ?_) (fun h_123 => ?_)
                · refine V_iload (pc := 130) C 5 dX10_pence_130 rfl ?_
                  refine V_iret (pc := 132) C hr hlk dX10_pence_132 ⟨_, rfl, ?_⟩
                  first | exact ⟨rfl, by rw [pP4, if_neg h_70, ← hch]⟩ | exact ⟨rfl, by rw [pP4, if_pos h_70, ← hch]; rfl⟩
                · rw [hch] at h_123
                  first | exact absurd hnn.2.1 h_123 | exact absurd hnn.2.2.2 h_123
          · first | exact absurd h_44 (by decide) | exact absurd (by decide) h_44
        · have hch : 3 = pChild (nI yn) := (if_pos (Int32.not_le.mp h_31)).symm
          refine V_iconst (v := 3) (pc := 34) C dX10_pence_34 (by decide) ?_
          refine V_goto (tgt := 39) (pc := 35) C dX10_pence_35 (by decide) ?_
          refine Vs_istore (lv' := [(0, _), (1, _), (2, _), (3, _), (4, _), (5, _)]) (pc := 39) C dX10_pence_39 (by decide) rfl rfl ?_
          refine V_iload (pc := 41) C 4 dX10_pence_41 rfl ?_
          refine V_iconst (v := 3) (pc := 43) C dX10_pence_43 (by decide) ?_
          refine V_icmp_ne (tgt := 53) (pc := 44) C dX10_pence_44 (by decide) (fun h_44 => ?_) (fun h_44 => ?_)
          · refine V_iload (pc := 53) C 4 dX10_pence_53 rfl ?_
            refine V_iconst (v := 4) (pc := 55) C dX10_pence_55 (by decide) ?_
            refine V_icmp_ne (tgt := 121) (pc := 56) C dX10_pence_56 (by decide) (fun h_56 => ?_) (fun h_56 => ?_)
            · first | exact absurd h_56 (by decide) | exact absurd (by decide) h_56
            · refine V_iload_n (pc := 59) C 3 dX10_pence_59 rfl rfl ?_
              refine V_iconst (v := 4) (pc := 60) C dX10_pence_60 (by decide) ?_
              refine V_irem (pc := 61) C dX10_pence_61 (by decide) ?_
              refine V_aload_n (pc := 62) C 0 dX10_pence_62 rfl rfl ?_
              refine get_X10_35 (pc := 63) C (wg hG (by decide) (by decide)) dX10_pence_63 ?_
              refine V_iload_n (pc := 66) C 1 dX10_pence_66 rfl rfl ?_
              refine V_iald (pc := 67) C (k) rfl hk (Nat.le_of_ble_eq_true rfl) (wg hG (by decide) (by decide)) wF_38 dX10_pence_67 ?_
              refine V_iconst (v := 4) (pc := 68) C dX10_pence_68 (by decide) ?_
              refine V_irem (pc := 69) C dX10_pence_69 (by decide) ?_
              rw [h2]
              refine V_icmp_ne (tgt := 121) (pc := 70) C dX10_pence_70 (by decide) (fun h_70 => ?_) (fun h_70 => ?_)
              · refine V_iload (pc := 121) C 5 dX10_pence_121 rfl ?_
                refine V_if_ge (tgt := 130) (pc := 123) C dX10_pence_123 (by decide) (fun _ => ?_) (fun h => absurd (by decide) h)
                refine V_iload (pc := 130) C 5 dX10_pence_130 rfl ?_
                refine V_iret (pc := 132) C hr hlk dX10_pence_132 ⟨_, rfl, ?_⟩
                first | exact ⟨rfl, by rw [pP4, if_neg h_70, ← hch]⟩ | exact ⟨rfl, by rw [pP4, if_pos h_70, ← hch]; rfl⟩
              · refine Vs_iinc (lv' := [(0, _), (1, _), (2, _), (3, _), (4, _), (5, _)]) (pc := 73) C 5 dX10_pence_73 rfl (by decide) rfl rfl rfl ?_
                refine V_goto (tgt := 121) (pc := 76) C dX10_pence_76 (by decide) ?_
                refine V_iload (pc := 121) C 5 dX10_pence_121 rfl ?_
                refine V_if_ge (tgt := 130) (pc := 123) C dX10_pence_123 (by decide) (fun h_123 => ?_) (fun h_123 => ?_)
                · refine V_iload (pc := 130) C 5 dX10_pence_130 rfl ?_
                  refine V_iret (pc := 132) C hr hlk dX10_pence_132 ⟨_, rfl, ?_⟩
                  first | exact ⟨rfl, by rw [pP4, if_neg h_70, ← hch]⟩ | exact ⟨rfl, by rw [pP4, if_pos h_70, ← hch]; rfl⟩
                · rw [hch] at h_123
                  first | exact absurd hnn.2.1 h_123 | exact absurd hnn.2.2.2 h_123
          · first | exact absurd h_44 (by decide) | exact absurd (by decide) h_44
theorem pence_5 (hG : 56 ≤ G) {M : wS} {k : Nat} (hk : k < 7) {num : Int32} (h1 : M.1 34 0 k = nI 5) (h2 : M.1 38 0 k = num) {yn : Nat} (hy : yn < 100) (w : Int32) : Ctr l D cy ad G d yX10_pence cX10_pence 6 (some .int) [.ref (ad 30 0), .int (nI k), .int (nI yn), .int w] M (rI fun x M' => M' = M ∧ x = pPence (nI 5) num (nI yn) w) := by
  have hnn := el_nn yn hy
  refine Ctr.of (lv0 := [(0, _), (1, _), (2, _), (3, _)]) (by decide) (Nat.le_of_ble_eq_true rfl) rfl ?_
  intro p e s m args below meth c C hr hlk _
  have C : CX p s m args c cX10_pence 6 "CostsAgeModel" D cy ad G (wA ad G) (Rm d) d 0 0 := C
  refine V_aload_n (pc := 0) C 0 dX10_pence_0 rfl rfl ?_
  refine get_X10_23 (pc := 1) C (wg hG (by decide) (by decide)) dX10_pence_1 ?_
  refine V_iload_n (pc := 4) C 1 dX10_pence_4 rfl rfl ?_
  refine V_iald (pc := 5) C (k) rfl hk (Nat.le_of_ble_eq_true rfl) (wg hG (by decide) (by decide)) wF_34 dX10_pence_5 ?_
  rw [h1]
  refine Vs_istore (lv' := [(0, _), (1, _), (2, _), (3, _), (4, _)]) (pc := 6) C dX10_pence_6 (by decide) rfl rfl ?_
  refine V_iload_n (pc := 8) C 2 dX10_pence_8 rfl rfl ?_
  refine Vs_istore (lv' := [(0, _), (1, _), (2, _), (3, _), (4, _), (5, _)]) (pc := 9) C dX10_pence_9 (by decide) rfl rfl ?_
  refine V_iload (pc := 11) C 4 dX10_pence_11 rfl ?_
  refine V_iconst (v := 1) (pc := 13) C dX10_pence_13 (by decide) ?_
  refine V_icmp_eq (tgt := 29) (pc := 14) C dX10_pence_14 (by decide) (fun h_14 => ?_) (fun h_14 => ?_)
  · first | exact absurd h_14 (by decide) | exact absurd (by decide) h_14
  · refine V_iload (pc := 17) C 4 dX10_pence_17 rfl ?_
    refine V_iconst (v := 3) (pc := 19) C dX10_pence_19 (by decide) ?_
    refine V_icmp_eq (tgt := 29) (pc := 20) C dX10_pence_20 (by decide) (fun h_20 => ?_) (fun h_20 => ?_)
    · first | exact absurd h_20 (by decide) | exact absurd (by decide) h_20
    · refine V_iload (pc := 23) C 4 dX10_pence_23 rfl ?_
      refine V_iconst (v := 4) (pc := 25) C dX10_pence_25 (by decide) ?_
      refine V_icmp_ne (tgt := 79) (pc := 26) C dX10_pence_26 (by decide) (fun h_26 => ?_) (fun h_26 => ?_)
      · refine V_iload (pc := 79) C 4 dX10_pence_79 rfl ?_
        refine V_if_eq (tgt := 121) (pc := 81) C dX10_pence_81 (by decide) (fun h_81 => ?_) (fun h_81 => ?_)
        · first | exact absurd h_81 (by decide) | exact absurd (by decide) h_81
        · refine V_iload_n (pc := 84) C 2 dX10_pence_84 rfl rfl ?_
          refine V_bipush (v := 60) (pc := 85) C dX10_pence_85 (by decide) ?_
          refine V_icmp_le (tgt := 101) (pc := 87) C dX10_pence_87 (by decide) (fun h_87 => ?_) (fun h_87 => ?_)
          · have hel : nI yn = pElder (nI yn) := (if_neg (Int32.not_lt.mpr h_87)).symm
            refine V_iload_n (pc := 101) C 2 dX10_pence_101 rfl rfl ?_
            refine Vs_istore (lv' := [(0, _), (1, _), (2, _), (3, _), (4, _), (5, _)]) (pc := 102) C dX10_pence_102 (by decide) rfl rfl ?_
            refine V_iload (pc := 104) C 4 dX10_pence_104 rfl ?_
            refine V_iconst (v := 5) (pc := 106) C dX10_pence_106 (by decide) ?_
            refine V_icmp_ne (tgt := 121) (pc := 107) C dX10_pence_107 (by decide) (fun h_107 => ?_) (fun h_107 => ?_)
            · first | exact absurd h_107 (by decide) | exact absurd (by decide) h_107
            · refine V_iload (pc := 110) C 5 dX10_pence_110 rfl ?_
              refine V_aload_n (pc := 112) C 0 dX10_pence_112 rfl rfl ?_
              refine get_X10_35 (pc := 113) C (wg hG (by decide) (by decide)) dX10_pence_113 ?_
              refine V_iload_n (pc := 116) C 1 dX10_pence_116 rfl rfl ?_
              refine V_iald (pc := 117) C (k) rfl hk (Nat.le_of_ble_eq_true rfl) (wg hG (by decide) (by decide)) wF_38 dX10_pence_117 ?_
              rw [h2]
              refine V_isub (pc := 118) C dX10_pence_118 ?_
              refine Vs_istore (lv' := [(0, _), (1, _), (2, _), (3, _), (4, _), (5, _)]) (pc := 119) C dX10_pence_119 (by decide) rfl rfl ?_
              refine V_iload (pc := 121) C 5 dX10_pence_121 rfl ?_
              refine V_if_ge (tgt := 130) (pc := 123) C dX10_pence_123 (by decide) (fun h_123 => ?_) (fun h_123 => ?_)
              · rw [hel] at h_123
                refine V_iload (pc := 130) C 5 dX10_pence_130 rfl ?_
                refine V_iret (pc := 132) C hr hlk dX10_pence_132 ⟨_, rfl, ?_⟩
                first | exact ⟨rfl, by rw [pP5, if_neg (Int32.not_lt.mpr h_123), ← hel]⟩ | exact ⟨rfl, by rw [pP5, if_pos (Int32.not_le.mp h_123)]⟩
              · rw [hel] at h_123
                refine V_iconst (v := 0) (pc := 126) C dX10_pence_126 (by decide) ?_
                refine V_goto (tgt := 132) (pc := 127) C dX10_pence_127 (by decide) ?_
                refine V_iret (pc := 132) C hr hlk dX10_pence_132 ⟨_, rfl, ?_⟩
                first | exact ⟨rfl, by rw [pP5, if_neg (Int32.not_lt.mpr h_123), ← hel]⟩ | exact ⟨rfl, by rw [pP5, if_pos (Int32.not_le.mp h_123)]⟩
          · have hel : nI yn - (nI yn - 60) / 2 = pElder (nI yn) := (if_pos (Int32.not_le.mp h_87)).symm
            refine V_iload_n (pc := 90) C 2 dX10_pence_90 rfl rfl ?_
            refine V_iload_n (pc := 91) C 2 dX10_pence_91 rfl rfl ?_
            refine V_bipush (v := 60) (pc := 92) C dX10_pence_92 (by decide) ?_
            refine V_isub (pc := 94) C dX10_pence_94 ?_
            refine V_iconst (v := 2) (pc := 95) C dX10_pence_95 (by decide) ?_
            refine V_idiv (pc := 96) C dX10_pence_96 (by decide) ?_
            refine V_isub (pc := 97) C dX10_pence_97 ?_
            refine V_goto (tgt := 102) (pc := 98) C dX10_pence_98 (by decide) ?_
            refine Vs_istore (lv' := [(0, _), (1, _), (2, _), (3, _), (4, _), (5, _)]) (pc := 102) C dX10_pence_102 (by decide) rfl rfl ?_
            refine V_iload (pc := 104) C 4 dX10_pence_104 rfl ?_
            refine V_iconst (v := 5) (pc := 106) C dX10_pence_106 (by decide) ?_
            refine V_icmp_ne (tgt := 121) (pc := 107) C dX10_pence_107 (by decide) (fun h_107 => ?_) (fun h_107 => ?_)
            · first | exact absurd h_107 (by decide) | exact absurd (by decide) h_107
            · refine V_iload (pc := 110) C 5 dX10_pence_110 rfl ?_
              refine V_aload_n (pc := 112) C 0 dX10_pence_112 rfl rfl ?_
              refine get_X10_35 (pc := 113) C (wg hG (by decide) (by decide)) dX10_pence_113 ?_
              refine V_iload_n (pc := 116) C 1 dX10_pence_116 rfl rfl ?_
              refine V_iald (pc := 117) C (k) rfl hk (Nat.le_of_ble_eq_true rfl) (wg hG (by decide) (by decide)) wF_38 dX10_pence_117 ?_
              rw [h2]
              refine V_isub (pc := 118) C dX10_pence_118 ?_
              refine Vs_istore (lv' := [(0, _), (1, _), (2, _), (3, _), (4, _), (5, _)]) (pc := 119) C dX10_pence_119 (by decide) rfl rfl ?_
              refine V_iload (pc := 121) C 5 dX10_pence_121 rfl ?_
              refine V_if_ge (tgt := 130) (pc := 123) C dX10_pence_123 (by decide) (fun h_123 => ?_) (fun h_123 => ?_)
              · rw [hel] at h_123
                refine V_iload (pc := 130) C 5 dX10_pence_130 rfl ?_
                refine V_iret (pc := 132) C hr hlk dX10_pence_132 ⟨_, rfl, ?_⟩
                first | exact ⟨rfl, by rw [pP5, if_neg (Int32.not_lt.mpr h_123), ← hel]⟩ | exact ⟨rfl, by rw [pP5, if_pos (Int32.not_le.mp h_123)]⟩
              · rw [hel] at h_123
                refine V_iconst (v := 0) (pc := 126) C dX10_pence_126 (by decide) ?_
                refine V_goto (tgt := 132) (pc := 127) C dX10_pence_127 (by decide) ?_
                refine V_iret (pc := 132) C hr hlk dX10_pence_132 ⟨_, rfl, ?_⟩
                first | exact ⟨rfl, by rw [pP5, if_neg (Int32.not_lt.mpr h_123), ← hel]⟩ | exact ⟨rfl, by rw [pP5, if_pos (Int32.not_le.mp h_123)]⟩
      · first | exact absurd h_26 (by decide) | exact absurd (by decide) h_26
theorem c_X10_pence (hG : 56 ≤ G) {M0 M : wS} {nb nt r e1 e2 e3 : Nat} (hC : rC M0 M nb nt r e1 e2 e3) {k : Nat} (hk : k < 7) {y : Int32} (w : Int32) (hy : 0 ≤ y ∧ y ≤ 99) : Ctr l D cy ad G d yX10_pence cX10_pence 6 (some .int) [.ref (ad 30 0), .int (nI k), .int y, .int w] M (rI fun x M' => M' = M ∧ x = pPence (M0.1 5 k 0) (M0.1 5 k 2) y w) := by
  obtain ⟨hP, hA, -⟩ := hC
  have hb0 := hP.2.2.2.1 k hk
  have a1 := (hA.2.2 k hk).1
  obtain ⟨kd, hkd, ekd⟩ := ix_of (n := 6) hb0.1.1 (by have := hb0.1.2; (simp only [i32_eq, Int32.le_iff_toInt_le, Int32.lt_iff_toInt_lt, Int32.not_le, Int32.not_lt, Int32.toInt_add, Int32.toInt_sub, Int32.toInt_mul, Int32.toInt_neg, Int32.toInt_div, tdv2, tdv4, tdv10, tdv52, tdv100, nI_T, apply_ite Int32.toInt, Int.bmod, Int32.reduceToInt] at *; omega)) (by decide)
  obtain ⟨yn, hyn, rfl⟩ := ix_of (n := 100) hy.1 (by have := hy.2; (simp only [i32_eq, Int32.le_iff_toInt_le, Int32.lt_iff_toInt_lt, Int32.not_le, Int32.not_lt, Int32.toInt_add, Int32.toInt_sub, Int32.toInt_mul, Int32.toInt_neg, Int32.toInt_div, tdv2, tdv4, tdv10, tdv52, tdv100, nI_T, apply_ite Int32.toInt, Int.bmod, Int32.reduceToInt] at *; omega)) (by decide)
  have g1 := a1.1.trans ekd
  have g2 := a1.2.2.2.2
  rw [ekd]
  match kd, hkd with
  | 0, _ => exact pence_0 hG hk g1 g2 hyn w
  | 1, _ => exact pence_1 hG hk g1 g2 hyn w
  | 2, _ => exact pence_2 hG hk g1 g2 hyn w
  | 3, _ => exact pence_3 hG hk g1 g2 hyn w
  | 4, _ => exact pence_4 hG hk g1 g2 hyn w
  | 5, _ => exact pence_5 hG hk g1 g2 hyn w
theorem c_X10_asks (hG : 56 ≤ G) {M0 M : wS} {nb nt r e1 e2 e3 : Nat} (hC : rC M0 M nb nt r e1 e2 e3) {k : Nat} (hk : k < 7) : Ctr l D cy ad G d yX10_asks cX10_asks 4 (some .int) [.ref (ad 30 0), .int (nI k)] M (rI fun x M' => M' = M ∧ x = pAsks (M0.1 5 k 0) (M0.1 5 k 2) (M0.1 28 0 k)) := by
  obtain ⟨hP, hA, -⟩ := hC
  have a1 := (hA.2.2 k hk).1
  refine Ctr.of (lv0 := [(0, _), (1, _)]) (by decide) (Nat.le_of_ble_eq_true rfl) rfl ?_
  intro p e s m args below meth c C hr hlk _
  have C : CX p s m args c cX10_asks 4 "CostsAgeModel" D cy ad G (wA ad G) (Rm d) d 0 0 := C
  refine V_aload_n (pc := 0) C 0 dX10_asks_0 rfl rfl ?_
  refine get_X10_23 (pc := 1) C (wg hG (by decide) (by decide)) dX10_asks_1 ?_
  refine V_iload_n (pc := 4) C 1 dX10_asks_4 rfl rfl ?_
  refine V_iald (pc := 5) C (k) rfl hk (Nat.le_of_ble_eq_true rfl) (wg hG (by decide) (by decide)) wF_34 dX10_asks_5 ?_
  rw [a1.1]
  refine Vs_istore_n (lv' := [(0, _), (1, _), (2, _)]) (pc := 6) C dX10_asks_6 rfl (by decide) rfl rfl ?_
  refine V_aload_n (pc := 7) C 0 dX10_asks_7 rfl rfl ?_
  refine get_X10_32 (pc := 8) C (wg hG (by decide) (by decide)) dX10_asks_8 ?_
  refine V_iload_n (pc := 11) C 1 dX10_asks_11 rfl rfl ?_
  refine V_iald (pc := 12) C (k) rfl hk (Nat.le_of_ble_eq_true rfl) (wg hG (by decide) (by decide)) wF_37 dX10_asks_12 ?_
  rw [a1.2.2.2.1]
  refine Vs_istore_n (lv' := [(0, _), (1, _), (2, _), (3, _)]) (pc := 13) C dX10_asks_13 rfl (by decide) rfl rfl ?_
  refine V_iload_n (pc := 14) C 2 dX10_asks_14 rfl rfl ?_
  refine V_iconst (v := 1) (pc := 15) C dX10_asks_15 (by decide) ?_
  refine V_icmp_eq (tgt := 24) (pc := 16) C dX10_asks_16 (by decide) (fun h_16 => ?_) (fun h_16 => ?_)
  · refine V_iload_n (pc := 24) C 3 dX10_asks_24 rfl rfl ?_
    refine V_iconst (v := 2) (pc := 25) C dX10_asks_25 (by decide) ?_
    refine V_idiv (pc := 26) C dX10_asks_26 (by decide) ?_
    refine V_iret (pc := 27) C hr hlk dX10_asks_27 ⟨_, rfl, ?_⟩
    first | exact ⟨rfl, by rw [pAsks, if_pos (Or.inl h_16)]⟩ | exact ⟨rfl, by rw [pAsks, if_pos (Or.inr h_21)]⟩
  · refine V_iload_n (pc := 19) C 2 dX10_asks_19 rfl rfl ?_
    refine V_iconst (v := 4) (pc := 20) C dX10_asks_20 (by decide) ?_
    refine V_icmp_ne (tgt := 28) (pc := 21) C dX10_asks_21 (by decide) (fun h_21 => ?_) (fun h_21 => ?_)
    · refine V_iload_n (pc := 28) C 2 dX10_asks_28 rfl rfl ?_
      refine V_iconst (v := 3) (pc := 29) C dX10_asks_29 (by decide) ?_
      refine V_icmp_ne (tgt := 39) (pc := 30) C dX10_asks_30 (by decide) (fun h_30 => ?_) (fun h_30 => ?_)
      · refine V_iload_n (pc := 39) C 2 dX10_asks_39 rfl rfl ?_
        refine V_iconst (v := 5) (pc := 40) C dX10_asks_40 (by decide) ?_
        refine V_icmp_ne (tgt := 57) (pc := 41) C dX10_asks_41 (by decide) (fun h_41 => ?_) (fun h_41 => ?_)
        · refine V_iload_n (pc := 57) C 3 dX10_asks_57 rfl rfl ?_
          refine V_iret (pc := 58) C hr hlk dX10_asks_58 ⟨_, rfl, ?_⟩
          first | exact ⟨rfl, by rw [pAsks, if_neg (fun e => e.elim h_16 h_21), if_neg h_30, if_neg h_41]⟩ | exact ⟨rfl, by rw [pAsks, if_neg (fun e => e.elim h_16 h_21), if_neg h_30, if_pos h_41]⟩
        · refine V_iconst (v := 2) (pc := 44) C dX10_asks_44 (by decide) ?_
          refine V_iload_n (pc := 45) C 3 dX10_asks_45 rfl rfl ?_
          refine V_imul (pc := 46) C dX10_asks_46 ?_
          refine V_aload_n (pc := 47) C 0 dX10_asks_47 rfl rfl ?_
          refine get_X10_35 (pc := 48) C (wg hG (by decide) (by decide)) dX10_asks_48 ?_
          refine V_iload_n (pc := 51) C 1 dX10_asks_51 rfl rfl ?_
          refine V_iald (pc := 52) C (k) rfl hk (Nat.le_of_ble_eq_true rfl) (wg hG (by decide) (by decide)) wF_38 dX10_asks_52 ?_
          rw [a1.2.2.2.2]
          refine V_iadd (pc := 53) C dX10_asks_53 ?_
          refine V_goto (tgt := 58) (pc := 54) C dX10_asks_54 (by decide) ?_
          refine V_iret (pc := 58) C hr hlk dX10_asks_58 ⟨_, rfl, ?_⟩
          first | exact ⟨rfl, by rw [pAsks, if_neg (fun e => e.elim h_16 h_21), if_neg h_30, if_neg h_41]⟩ | exact ⟨rfl, by rw [pAsks, if_neg (fun e => e.elim h_16 h_21), if_neg h_30, if_pos h_41]⟩
      · refine V_iload_n (pc := 33) C 3 dX10_asks_33 rfl rfl ?_
        refine V_iconst (v := 2) (pc := 34) C dX10_asks_34 (by decide) ?_
        refine V_idiv (pc := 35) C dX10_asks_35 (by decide) ?_
        refine V_iconst (v := 5) (pc := 36) C dX10_asks_36 (by decide) ?_
        refine V_iadd (pc := 37) C dX10_asks_37 ?_
        refine V_iret (pc := 38) C hr hlk dX10_asks_38 ⟨_, rfl, ?_⟩
        exact ⟨rfl, by rw [pAsks, if_neg (fun e => e.elim h_16 h_21), if_pos h_30]⟩
    · refine V_iload_n (pc := 24) C 3 dX10_asks_24 rfl rfl ?_
      refine V_iconst (v := 2) (pc := 25) C dX10_asks_25 (by decide) ?_
      refine V_idiv (pc := 26) C dX10_asks_26 (by decide) ?_
      refine V_iret (pc := 27) C hr hlk dX10_asks_27 ⟨_, rfl, ?_⟩
      first | exact ⟨rfl, by rw [pAsks, if_pos (Or.inl h_16)]⟩ | exact ⟨rfl, by rw [pAsks, if_pos (Or.inr h_21)]⟩
end S57
