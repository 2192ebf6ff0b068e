/-! which sets may be tied: the reference's way -/
theorem sub_nI {v : Int32} {O : Nat} (hO : O < 128) (h : v &&& (nI O ^^^ -1) = 0) : ∃ S, S < 128 ∧ v = nI S ∧ S &&& O = S := by
  have e1 : v.toBitVec &&& (nI O).toBitVec = v.toBitVec := by
    have h2 : (v &&& (nI O ^^^ -1)).toBitVec = 0#32 := by rw [h]; rfl
    rw [Int32.toBitVec_and, Int32.toBitVec_xor] at h2
    have e3 : (-1 : Int32).toBitVec = BitVec.allOnes 32 := rfl
    rw [e3] at h2
    generalize v.toBitVec = a at h2 ⊢
    generalize (nI O).toBitVec = b at h2 ⊢
    apply BitVec.eq_of_getElem_eq
    intro i hi
    have h4 : (a &&& (b ^^^ BitVec.allOnes 32))[i] = (0#32)[i] := by rw [h2]
    simp only [BitVec.getElem_and, BitVec.getElem_xor, BitVec.getElem_allOnes, BitVec.getElem_zero] at h4 ⊢
    revert h4
    cases a[i] <;> cases b[i] <;> simp
  have hb : (nI O).toBitVec.toNat = O := by
    show (Int32.ofNat O).toBitVec.toNat = O
    rw [Int32.toBitVec_ofNat', BitVec.toNat_ofNat]
    exact Nat.mod_eq_of_lt (by omega)
  have e2 : v.toBitVec.toNat &&& O = v.toBitVec.toNat := by
    have := congrArg BitVec.toNat e1
    rw [BitVec.toNat_and, hb] at this
    exact this
  have hlt : v.toBitVec.toNat < 128 := by
    rw [← e2]
    exact Nat.lt_of_le_of_lt Nat.and_le_right hO
  refine ⟨v.toBitVec.toNat, hlt, ?_, e2⟩
  apply Int32.toBitVec_inj.mp
  apply BitVec.eq_of_toNat_eq
  show _ = (Int32.ofNat _).toBitVec.toNat
  rw [Int32.toBitVec_ofNat', BitVec.toNat_ofNat, Nat.mod_eq_of_lt (by omega)]
def cntB (S : Nat) : Nat → Nat → Nat
  | _, 0 => 0
  | t, n + 1 => (if S.testBit t then 1 else 0) + cntB S (t + 1) n
def cntChk (nt S : Nat) : Bool := !(Nat.blt S (2 ^ nt)) || (cntB S 0 nt == pc7 S)
theorem cnt_chk : ∀ nt, nt < 8 → ∀ S, S < 128 → cntChk nt S = true := by decide +kernel
theorem cntB_pc {nt S : Nat} (hnt : nt ≤ 7) (hS : S < 2 ^ nt) (hS7 : S < 128) : cntB S 0 nt = pc7 S := by
  have h := cnt_chk nt (by omega) S hS7
  unfold cntChk at h
  rw [Bool.or_eq_true, beq_iff_eq] at h
  refine h.resolve_left (fun e => ?_)
  rw [Bool.not_eq_true'] at e
  have : Nat.blt S (2 ^ nt) = true := Nat.ble_eq.mpr hS
  rw [e] at this
  exact absurd this (by decide)
theorem tRun_cnt (M0 : wS) {S : Nat} (hS : S < 128) : ∀ (n t : Nat) (q : Int32 × Int32 × Int32 × Int32) (c : Nat), t + n ≤ 7 → q.2.2.1 = nI c → (tRun M0 (nI S) t n q).2.2.1 = nI (c + cntB S t n) := by
  intro n
  induction n with
  | zero => intro t q c _ h; exact h
  | succ n ih =>
    intro t q c ht h
    unfold tRun cntB
    have hb := hasB_i S hS t (by omega)
    by_cases c1 : S.testBit t = true
    · have c2 : ¬ (nI S >>> (nI t &&& 31)) &&& 1 = 0 := by rw [hb]; exact c1
      rw [if_pos c1, show c + (1 + cntB S (t + 1) n) = (c + 1) + cntB S (t + 1) n by omega]
      refine ih (t + 1) _ (c + 1) (by omega) ?_
      rw [tStep, if_neg c2]
      show q.2.2.1 + 1 = _
      rw [h, nI_1]
    · have c2 : (nI S >>> (nI t &&& 31)) &&& 1 = 0 := Decidable.byContradiction (fun e => c1 (by rw [← hb]; exact e))
      rw [if_neg c1, Nat.zero_add]
      refine ih (t + 1) _ c (by omega) ?_
      rw [tStep, if_pos c2]
      exact h
section S59
variable {l : Launch} {D : va_G} {cy : Nat → ClassId} {ad : Nat → Nat → Nat} {G d : Nat}
/-- all that is not bought, as a number -/
def uO (M0 : wS) (nt O : Nat) : Prop := kUnb M0 = nI O ∧ O < 2 ^ nt ∧ O < 128
theorem r_taking (hG : 56 ≤ G) (hd : 42 ≤ d) {M0 M N : wS} {nb nt r e1 e2 e3 : Nat} (hC : rC M0 M nb nt r e1 e2 e3) {v : Int32} (hN : shw M0 N nt v) {k : Nat} (hk : k < 7) {n : Int32} (hn : 0 ≤ n ∧ n ≤ 103) : Ctr l D cy ad G d yX10_taking cX10_taking 4 (some .int) [.ref (ad 30 0), .int (nI k), .int v, .int n] M (rI fun x M' => frK 36 M M' ∧ M'.1 30 0 27 = bI (N.1 13 0 2 = nI k) ∧ x = kPrice N r e1 e2 k (M0.1 28 0 k) n) := by
  have e50 : N.1 5 k = M0.1 5 k := hN.1.1 5 k (by decide) (by decide) (by decide)
  have e27 : N.1 27 0 = M0.1 27 0 := hN.1.1 27 0 (by decide) (by decide) (by decide)
  have e26 : N.1 26 0 = M0.1 26 0 := hN.1.1 26 0 (by decide) (by decide) (by decide)
  have e8 : N.1 8 r = M0.1 8 r := hN.1.1 8 r (by decide) (by decide) (by decide)
  have hb := hC.1.2.2.2.1 k hk
  have hag := pAgeC_range hb.2.1 hb.2.2.2.1 hC.1.2.2.2.2 hn
  have hrr : M0.1 26 0 8 = nI r ∧ r < 6 := ⟨hC.1.2.2.1.1, hC.1.2.2.1.2.1⟩
  obtain ⟨z, f, t1, t2, t3, t4, t5⟩ := hC.2.2
  have hv := cOf_val t2 t5 (kEnv N k (M0.1 28 0 k) n)
  have hk0 : kEnv N k (M0.1 28 0 k) n 0 = pAgeC (M0.1 5 k 1) (M0.1 27 0 k) (M0.1 26 0 4) n := by simp [kEnv, upd, e50, e27, e26]
  have hk3 : kEnv N k (M0.1 28 0 k) n 3 = pWeek (M0.1 26 0 4) n := by simp [kEnv, upd, e26]
  have hk5 : kEnv N k (M0.1 28 0 k) n 5 = bI (N.1 13 0 2 = nI k) := by simp [kEnv, upd]
  have rd : ∀ {M1 : wS} (w : Int32), frK 36 M M1 → (∀ j, j < 6 → M1.1 30 0 (22 + j) = kEnv N k (M0.1 28 0 k) n j) → Ctr l D cy ad G (d - 1) yX10_read cX10_read 6 (some .int) [.ref (ad 30 0), .int (nI r), .int w] M1 (rI fun x M' => frX M1 M' ∧ x = if w = 0 then (tW f z (kEnv N k (M0.1 28 0 k) n)).1 else if w = 1 then (tW f z (kEnv N k (M0.1 28 0 k) n)).2.1 else (tW f z (kEnv N k (M0.1 28 0 k) n)).2.2) := by
    intro M1 w hq he
    refine Ctr.weaken (c_X10_read (d := d - 1) hG (by omega) hrr.2 M1 (z := z) (f := f) (e0 := kEnv N k (M0.1 28 0 k) n) (by rw [hq.1 32 0 (by decide)]; exact t1) t2 (fun i hi => by rw [hq.1 31 0 (by decide)]; exact t3 i hi) t4 he w) ?_
    rintro rr M' ⟨x, hx, h1, h2⟩
    exact ⟨x, hx, h1, h2.2.2 t5.1⟩
  rw [← hv.1, ← hv.2.1, ← hv.2.2.1] at rd
  clear hv t5 t4 t3 t1
  have kP : kPrice N r e1 e2 k (M0.1 28 0 k) n = if xVal (kEnv N k (M0.1 28 0 k) n) (M0.1 8 r) 0 e1 = 0 then -5 else pPence (M0.1 5 k 0) (M0.1 5 k 2) (pAgeC (M0.1 5 k 1) (M0.1 27 0 k) (M0.1 26 0 4) n) (pWeek (M0.1 26 0 4) n) + pHeld (xVal (kEnv N k (M0.1 28 0 k) n) (M0.1 8 r) e1 (e2 - e1)) := by
    unfold kPrice
    rw [e50, e27, e26, e8]
  rw [kP]
  refine Ctr.of (lv0 := [(0, _), (1, _), (2, _), (3, _)]) (by decide) (Nat.le_of_ble_eq_true rfl) rfl ?_
  intro p e s m args below meth c C hr hlk _
  have C : CX p s m args c cX10_taking 4 "CostsAgeModel" D cy ad G (wA ad G) (Rm d) d 0 0 := C
  refine V_aload_n (pc := 0) C 0 dX10_taking_0 rfl rfl ?_
  refine V_iload_n (pc := 1) C 1 dX10_taking_1 rfl rfl ?_
  refine V_iload_n (pc := 2) C 2 dX10_taking_2 rfl rfl ?_
  refine V_iload_n (pc := 3) C 3 dX10_taking_3 rfl rfl ?_
  refine call_X10_278 (pc := 4) C (r_about (d := d - 1) hG (by omega) hC hN hk hn) (by omega) (wg hG (by decide) (by decide)) (Nat.le_of_ble_eq_true rfl) dX10_taking_4 (fun M_4 h_4 => ?_)
  obtain ⟨f1, f2⟩ := h_4
  have hru : M_4.1 30 0 4 = nI r := ((hC.q (f1.q (by decide))).2.1.2.1.2.2.2).trans hrr.1
  refine V_aload_n (pc := 7) C 0 dX10_taking_7 rfl rfl ?_
  refine V_aload_n (pc := 8) C 0 dX10_taking_8 rfl rfl ?_
  refine get_X10_270 (pc := 9) C (wg hG (by decide) (by decide)) dX10_taking_9 ?_
  refine V_iconst (v := 0) (pc := 12) C dX10_taking_12 (by decide) ?_
  rw [hru]
  refine call_X10_266 (pc := 13) C (rd 0 f1 f2) (by omega) (wg hG (by decide) (by decide)) (Nat.le_of_ble_eq_true rfl) dX10_taking_13 (fun x_13 M_13 h_13 => ?_)
  obtain ⟨g1, g2⟩ := h_13
  rw [if_pos rfl] at g2
  subst g2
  have f3 : ∀ j, j < 6 → M_13.1 30 0 (22 + j) = kEnv N k (M0.1 28 0 k) n j := fun j hj => by rw [g1.2 (22 + j) (by omega)]; exact f2 j hj
  have f22 : M_13.1 30 0 22 = pAgeC (M0.1 5 k 1) (M0.1 27 0 k) (M0.1 26 0 4) n := (f3 0 (by decide)).trans hk0
  have f25 : M_13.1 30 0 25 = pWeek (M0.1 26 0 4) n := (f3 3 (by decide)).trans hk3
  have f27 : M_13.1 30 0 27 = bI (N.1 13 0 2 = nI k) := (f3 5 (by decide)).trans hk5
  have f4 : frK 36 M M_13 := f1.tr g1.k
  have hru2 : M_13.1 30 0 4 = nI r := ((hC.q (f4.q (by decide))).2.1.2.1.2.2.2).trans hrr.1
  refine V_if_ne (tgt := 22) (pc := 16) C dX10_taking_16 (by decide) (fun h_16 => ?_) (fun h_16 => ?_)
  · refine V_aload_n (pc := 22) C 0 dX10_taking_22 rfl rfl ?_
    refine V_iload_n (pc := 23) C 1 dX10_taking_23 rfl rfl ?_
    refine V_aload_n (pc := 24) C 0 dX10_taking_24 rfl rfl ?_
    refine get_X10_211 (pc := 25) C (wg hG (by decide) (by decide)) dX10_taking_25 ?_
    refine V_aload_n (pc := 28) C 0 dX10_taking_28 rfl rfl ?_
    refine get_X10_220 (pc := 29) C (wg hG (by decide) (by decide)) dX10_taking_29 ?_
    rw [f22, f25]
    refine call_X10_144 (pc := 32) C (c_X10_pence (d := d - 1) hG (hC.q (f4.q (by decide))) hk (pWeek (M0.1 26 0 4) n) hag) (by omega) (wg hG (by decide) (by decide)) (Nat.le_of_ble_eq_true rfl) dX10_taking_32 (fun x_32 M_32 h_32 => ?_)
    obtain ⟨e_32, rfl⟩ := h_32
    have e_32 := e_32.symm
    subst e_32
    refine V_aload_n (pc := 35) C 0 dX10_taking_35 rfl rfl ?_
    refine V_aload_n (pc := 36) C 0 dX10_taking_36 rfl rfl ?_
    refine get_X10_270 (pc := 37) C (wg hG (by decide) (by decide)) dX10_taking_37 ?_
    refine V_iconst (v := 1) (pc := 40) C dX10_taking_40 (by decide) ?_
    rw [hru2]
    refine call_X10_266 (pc := 41) C (rd 1 f4 f3) (by omega) (wg hG (by decide) (by decide)) (Nat.le_of_ble_eq_true rfl) dX10_taking_41 (fun x_41 M_41 h_41 => ?_)
    obtain ⟨k1, k2⟩ := h_41
    rw [if_neg (by decide), if_pos rfl] at k2
    subst k2
    refine V_iconst (v := 0) (pc := 44) C dX10_taking_44 (by decide) ?_
    refine V_sipush (v := 999) (pc := 45) C dX10_taking_45 (by decide) ?_
    refine call_X10_282 (pc := 48) C (c_X10_within (d := d - 1) _ _ 0 999) (by omega) (Nat.le_of_ble_eq_true rfl) dX10_taking_48 (fun x_48 M_48 h_48 => ?_)
    obtain ⟨e_48, rfl⟩ := h_48
    have e_48 := e_48.symm
    subst e_48
    refine V_iadd (pc := 51) C dX10_taking_51 ?_
    refine V_iret (pc := 52) C hr hlk dX10_taking_52 ⟨_, rfl, ?_⟩
    refine ⟨f4.tr k1.k, by rw [k1.2 27 (by omega)]; exact f27, ?_⟩
    rw [if_neg h_16]
    rfl
  · refine V_bipush (v := -5) (pc := 19) C dX10_taking_19 (by decide) ?_
    refine V_iret (pc := 21) C hr hlk dX10_taking_21 ⟨_, rfl, ?_⟩
    exact ⟨f4, f27, (if_pos h_16).symm⟩
theorem r_costOf (hG : 56 ≤ G) (hd : 43 ≤ d) {M0 M N : wS} {nb nt r e1 e2 e3 : Nat} (hC : rC M0 M nb nt r e1 e2 e3) {v : Int32} (hN : shw M0 N nt v) {k : Nat} (hk : k < 7) {n : Int32} (hn : 0 ≤ n ∧ n ≤ 103) : Ctr l D cy ad G d yX10_costOf cX10_costOf 5 (some .int) [.ref (ad 30 0), .int (nI k), .int v, .int n] M (rI fun x M' => frK 36 M M' ∧ x = kCost N r e1 e2 k (M0.1 28 0 k) n) := by
  have hNB : IB N := by
    have hB := hC.1.2.2.2.1
    intro j hj
    rw [hN.1.1 5 j (by decide) (by decide) (by decide), hN.1.1 27 0 (by decide) (by decide) (by decide), hN.1.1 28 0 (by decide) (by decide) (by decide)]
    exact hB j hj
  have hNw : 0 ≤ N.1 26 0 4 ∧ N.1 26 0 4 ≤ 51 := by
    rw [hN.1.1 26 0 (by decide) (by decide) (by decide)]
    exact hC.1.2.2.2.2
  have hrg := kPrice_range hNB hNw hk r e1 e2 (M0.1 28 0 k) n hn
  have e50 : N.1 5 k = M0.1 5 k := hN.1.1 5 k (by decide) (by decide) (by decide)
  refine Ctr.of (lv0 := [(0, _), (1, _), (2, _), (3, _)]) (by decide) (Nat.le_of_ble_eq_true rfl) rfl ?_
  intro p e s m args below meth c C hr hlk _
  have C : CX p s m args c cX10_costOf 5 "CostsAgeModel" D cy ad G (wA ad G) (Rm d) d 0 0 := C
  refine V_aload_n (pc := 0) C 0 dX10_costOf_0 rfl rfl ?_
  refine V_iload_n (pc := 1) C 1 dX10_costOf_1 rfl rfl ?_
  refine V_iload_n (pc := 2) C 2 dX10_costOf_2 rfl rfl ?_
  refine V_iload_n (pc := 3) C 3 dX10_costOf_3 rfl rfl ?_
  refine call_X10_285 (pc := 4) C (r_taking (d := d - 1) hG (by omega) hC hN hk hn) (by omega) (wg hG (by decide) (by decide)) (Nat.le_of_ble_eq_true rfl) dX10_costOf_4 (fun x_4 M_4 h_4 => ?_)
  obtain ⟨f1, f2, f3⟩ := h_4
  have hkc : kCost N r e1 e2 k (M0.1 28 0 k) n = if x_4 < 0 then x_4 else if N.1 13 0 2 = nI k then x_4 else x_4 + pAsks (M0.1 5 k 0) (M0.1 5 k 2) (M0.1 28 0 k) := by rw [kCost, e50, ← f3]
  rw [← f3] at hrg
  rw [hkc]
  clear f3 hkc
  refine Vs_istore (lv' := [(0, _), (1, _), (2, _), (3, _), (4, _)]) (pc := 7) C dX10_costOf_7 (by decide) rfl rfl ?_
  refine V_iload (pc := 9) C 4 dX10_costOf_9 rfl ?_
  refine V_bipush (v := -5) (pc := 11) C dX10_costOf_11 (by decide) ?_
  refine V_icmp_ne (tgt := 21) (pc := 13) C dX10_costOf_13 (by decide) (fun h_13 => ?_) (fun h_13 => ?_)
  · have hge : ¬ x_4 < 0 := Int32.not_lt.mpr (hrg.resolve_left h_13).1
    rw [if_neg hge]
    refine V_aload_n (pc := 21) C 0 dX10_costOf_21 rfl rfl ?_
    refine get_X10_226 (pc := 22) C (wg hG (by decide) (by decide)) dX10_costOf_22 ?_
    refine V_iconst (v := 1) (pc := 25) C dX10_costOf_25 (by decide) ?_
    refine V_icmp_ne (tgt := 34) (pc := 26) C dX10_costOf_26 (by decide) (fun h_26 => ?_) (fun h_26 => ?_)
    · rw [f2] at h_26
      have ho : ¬ N.1 13 0 2 = nI k := fun e => h_26 (bI_t e).symm
      rw [if_neg ho]
      refine V_iload (pc := 34) C 4 dX10_costOf_34 rfl ?_
      refine V_aload_n (pc := 36) C 0 dX10_costOf_36 rfl rfl ?_
      refine V_iload_n (pc := 37) C 1 dX10_costOf_37 rfl rfl ?_
      refine call_X10_148 (pc := 38) C (c_X10_asks (d := d - 1) hG (hC.q (f1.q (by decide))) hk) (by omega) (wg hG (by decide) (by decide)) (Nat.le_of_ble_eq_true rfl) dX10_costOf_38 (fun x_38 M_38 h_38 => ?_)
      obtain ⟨e_38, rfl⟩ := h_38
      have e_38 := e_38.symm
      subst e_38
      refine V_iadd (pc := 41) C dX10_costOf_41 ?_
      refine V_iret (pc := 42) C hr hlk dX10_costOf_42 ⟨_, rfl, ?_⟩
      first | exact ⟨f1, rfl⟩ | exact ⟨f1, h_13.symm⟩
    · rw [f2] at h_26
      have ho : N.1 13 0 2 = nI k := Decidable.byContradiction (fun e => absurd ((bI_f e).trans h_26) (by decide))
      rw [if_pos ho]
      refine V_iload (pc := 29) C 4 dX10_costOf_29 rfl ?_
      refine V_goto (tgt := 42) (pc := 31) C dX10_costOf_31 (by decide) ?_
      refine V_iret (pc := 42) C hr hlk dX10_costOf_42 ⟨_, rfl, ?_⟩
      first | exact ⟨f1, rfl⟩ | exact ⟨f1, h_13.symm⟩
  · rw [if_pos (by rw [h_13]; decide)]
    refine V_bipush (v := -5) (pc := 16) C dX10_costOf_16 (by decide) ?_
    refine V_goto (tgt := 42) (pc := 18) C dX10_costOf_18 (by decide) ?_
    refine V_iret (pc := 42) C hr hlk dX10_costOf_42 ⟨_, rfl, ?_⟩
    first | exact ⟨f1, rfl⟩ | exact ⟨f1, h_13.symm⟩
theorem lp_X10_mayBeTied {p : Program} {e : Env} {s : State} {m : MethodId} {args : Array Value} {below : List Frame} {meth : Method} {c : Code} (C : CX p s m args c cX10_mayBeTied 4 "CostsAgeModel" D cy ad G (wA ad G) (Rm d) d 0 0) (hr : meth.sig.returnType = (some .boolean)) (hlk : meth.locks = false) (hG : 56 ≤ G) (hd : 1 ≤ d) {M0 M : wS} {nb nt r e1 e2 e3 : Nat} (hC : rC M0 M nb nt r e1 e2 e3) {S : Nat} (hS : S < 128) (Qf : Int32 → wS → Prop) : ∀ (n t : Nat) (q : Int32 × Int32 × Int32 × Int32), t + n = nt → Qf (if pc7 S = 1 ∨ (tRun M0 (nI S) t n q).1 ≤ M0.1 26 0 7 then 1 else 0) M → V p l e (Rm d) s m args below meth c 4 D cy ad G (wA ad G) 0 0 (MQ below (wQ D cy ad G (rI Qf)) args s 0 0 (wA ad G)) 21 [(0, .ref (ad 30 0)), (1, .int (nI S)), (2, .int q.1), (3, .int (nI t))] [] M := by
  have hm := hC.2.1.1.2
  have hn7 := hC.1.2.1.2
  have hca := hC.2.1.2.1.2.2.1
  have hp := pc7_lt S hS
  intro n
  induction n with
  | zero =>
    intro t q ht hQ
    obtain rfl : t = nt := by omega
    have hQ : Qf (if pc7 S = 1 ∨ q.1 ≤ M0.1 26 0 7 then 1 else 0) M := hQ
    refine V_iload_n (pc := 21) C 3 dX10_mayBeTied_21 rfl rfl ?_
    refine V_aload_n (pc := 22) C 0 dX10_mayBeTied_22 rfl rfl ?_
    refine get_X10_110 (pc := 23) C (wg hG (by decide) (by decide)) dX10_mayBeTied_23 ?_
    refine V_icmp_ge (tgt := 50) (pc := 26) C dX10_mayBeTied_26 (by decide) (fun h_26 => ?_) (fun h_26 => ?_)
    · refine V_iload_n (pc := 50) C 1 dX10_mayBeTied_50 rfl rfl ?_
      refine call_X10_291 (pc := 51) C (c_X10_bitsOf (d := d - 1) M hS) (by omega) (Nat.le_of_ble_eq_true rfl) dX10_mayBeTied_51 (fun x_51 M_51 h_51 => ?_)
      obtain ⟨e_51, rfl⟩ := h_51
      have e_51 := e_51.symm
      subst e_51
      refine V_iconst (v := 1) (pc := 54) C dX10_mayBeTied_54 (by decide) ?_
      refine V_icmp_eq (tgt := 66) (pc := 55) C dX10_mayBeTied_55 (by decide) (fun h_55 => ?_) (fun h_55 => ?_)
      · have h1 := (nI_eq (b := 1) (by omega) (by decide)).mp h_55
        rw [if_pos (Or.inl h1)] at hQ
        refine V_iconst (v := 1) (pc := 66) C dX10_mayBeTied_66 (by decide) ?_
        refine V_goto (tgt := 71) (pc := 67) C dX10_mayBeTied_67 (by decide) ?_
        refine V_zret (pc := 71) C hr hlk rfl dX10_mayBeTied_71 ⟨_, rfl, ?_⟩
        exact hQ
      · have h1 : ¬ pc7 S = 1 := fun e => h_55 (by rw [e]; rfl)
        refine V_iload_n (pc := 58) C 2 dX10_mayBeTied_58 rfl rfl ?_
        refine V_aload_n (pc := 59) C 0 dX10_mayBeTied_59 rfl rfl ?_
        refine get_X10_47 (pc := 60) C (wg hG (by decide) (by decide)) dX10_mayBeTied_60 ?_
        refine V_icmp_gt (tgt := 70) (pc := 63) C dX10_mayBeTied_63 (by decide) (fun h_63 => ?_) (fun h_63 => ?_)
        · rw [hca] at h_63
          rw [if_neg (fun e => e.elim h1 (fun y => absurd y (Int32.not_le.mpr h_63)))] at hQ
          refine V_iconst (v := 0) (pc := 70) C dX10_mayBeTied_70 (by decide) ?_
          refine V_zret (pc := 71) C hr hlk rfl dX10_mayBeTied_71 ⟨_, rfl, ?_⟩
          exact hQ
        · rw [hca] at h_63
          rw [if_pos (Or.inr (Int32.not_lt.mp h_63))] at hQ
          refine V_iconst (v := 1) (pc := 66) C dX10_mayBeTied_66 (by decide) ?_
          refine V_goto (tgt := 71) (pc := 67) C dX10_mayBeTied_67 (by decide) ?_
          refine V_zret (pc := 71) C hr hlk rfl dX10_mayBeTied_71 ⟨_, rfl, ?_⟩
          exact hQ
    · rw [hm] at h_26
      exact absurd (nI_le (Nat.le_refl _) (by omega)) h_26
  | succ n ih =>
    intro t q ht hQ
    have hw := (hC.2.1.2.2 t (by omega)).2
    unfold tRun at hQ
    refine V_iload_n (pc := 21) C 3 dX10_mayBeTied_21 rfl rfl ?_
    refine V_aload_n (pc := 22) C 0 dX10_mayBeTied_22 rfl rfl ?_
    refine get_X10_110 (pc := 23) C (wg hG (by decide) (by decide)) dX10_mayBeTied_23 ?_
    refine V_icmp_ge (tgt := 50) (pc := 26) C dX10_mayBeTied_26 (by decide) (fun h_26 => ?_) (fun h_26 => ?_)
    · rw [hm] at h_26
      exact absurd h_26 (nI_ge (by omega) (by omega))
    · refine V_iload_n (pc := 29) C 2 dX10_mayBeTied_29 rfl rfl ?_
      refine V_iload_n (pc := 30) C 1 dX10_mayBeTied_30 rfl rfl ?_
      refine V_iload_n (pc := 31) C 3 dX10_mayBeTied_31 rfl rfl ?_
      refine V_ishr (pc := 32) C dX10_mayBeTied_32 ?_
      refine V_iconst (v := 1) (pc := 33) C dX10_mayBeTied_33 (by decide) ?_
      refine V_iand (pc := 34) C dX10_mayBeTied_34 ?_
      refine V_aload_n (pc := 35) C 0 dX10_mayBeTied_35 rfl rfl ?_
      refine get_X10_38 (pc := 36) C (wg hG (by decide) (by decide)) dX10_mayBeTied_36 ?_
      refine V_iload_n (pc := 39) C 3 dX10_mayBeTied_39 rfl rfl ?_
      refine V_iald (pc := 40) C (t) rfl (by omega) (Nat.le_of_ble_eq_true rfl) (wg hG (by decide) (by decide)) wF_39 dX10_mayBeTied_40 ?_
      rw [hw.1]
      refine V_imul (pc := 41) C dX10_mayBeTied_41 ?_
      refine V_iadd (pc := 42) C dX10_mayBeTied_42 ?_
      refine Vs_istore_n (lv' := [(0, _), (1, _), (2, _), (3, _)]) (pc := 43) C dX10_mayBeTied_43 rfl (by decide) rfl rfl ?_
      refine Vs_iinc (v := nI (t + 1)) (lv' := [(0, _), (1, _), (2, _), (3, _)]) (pc := 44) C 3 dX10_mayBeTied_44 rfl (by decide) rfl (nI_i1 (t)) rfl ?_
      refine V_goto (tgt := 21) (pc := 47) C dX10_mayBeTied_47 (by decide) ?_
      have hs : (tStep M0 (nI S) t q).1 = q.1 + (nI S >>> (nI t &&& 31) &&& 1) * M0.1 6 t 0 := by
        rcases bit01 (nI S) t with hb | hb
        · rw [tStep, if_pos hb, hb, Int32.zero_mul, Int32.add_zero]
        · rw [tStep, if_neg (by rw [hb]; decide), hb, Int32.one_mul]
      rw [← hs]
      exact ih (t + 1) _ (by omega) hQ
theorem r_mayBeTied (hG : 56 ≤ G) (hd : 2 ≤ d) {M0 M : wS} {nb nt r e1 e2 e3 O : Nat} (hC : rC M0 M nb nt r e1 e2 e3) (hU : uO M0 nt O) (v : Int32) : Ctr l D cy ad G d yX10_mayBeTied cX10_mayBeTied 4 (some .boolean) [.ref (ad 30 0), .int v] M (rI fun x M' => M' = M ∧ x = bP (kTied M0 nt v)) := by
  have hm := hC.2.1.1.2
  have hn7 := hC.1.2.1.2
  have hlf : (1 <<< (M.1 30 0 16 &&& 31) - 1) &&& (M.1 30 0 17 ^^^ -1) = nI O := by
    rw [hm, hC.2.1.2.1.1, ← hC.1.2.1.1]
    exact hU.1
  have hkt : ∀ S, v = nI S → S < 128 → S &&& O = S → 0 < S → (kTied M0 nt v ↔ (pc7 S = 1 ∨ (tRun M0 (nI S) 0 nt (0, 0, 0, -1)).1 ≤ M0.1 26 0 7)) := by
    intro S hv hS hSO h0
    have hS2 : S < 2 ^ nt := by
      rw [← hSO]
      exact Nat.lt_of_le_of_lt Nat.and_le_right hU.2.1
    have hc := tRun_cnt M0 hS nt 0 (0, 0, 0, -1) 0 (by omega) rfl
    rw [cntB_pc hn7 hS2 hS, Nat.zero_add] at hc
    have hp := pc7_lt S hS
    unfold kTied kTieQ
    rw [hv, hc, hU.1]
    constructor
    · rintro ⟨-, -, h | h⟩
      · exact Or.inl ((nI_eq (b := 1) (by omega) (by decide)).mp h)
      · exact Or.inr h
    · intro h
      refine ⟨nI_ne0 h0 (by omega), ?_, ?_⟩
      · rw [and_i S hS O hU.2.2]
        exact hSO
      · rcases h with h | h
        · exact Or.inl (by rw [h]; rfl)
        · exact Or.inr h
  refine Ctr.of (lv0 := [(0, _), (1, _)]) (by decide) (Nat.le_of_ble_eq_true rfl) rfl ?_
  intro p e s m args below meth c C hr hlk _
  have C : CX p s m args c cX10_mayBeTied 4 "CostsAgeModel" D cy ad G (wA ad G) (Rm d) d 0 0 := C
  refine V_iload_n (pc := 0) C 1 dX10_mayBeTied_0 rfl rfl ?_
  refine V_if_le (tgt := 15) (pc := 1) C dX10_mayBeTied_1 (by decide) (fun h_1 => ?_) (fun h_1 => ?_)
  · have hno : ¬ kTied M0 nt v := fun e => by
      obtain ⟨S, s1, s2, s3⟩ := sub_nI hU.2.2 (by have := e.2.1; rw [hU.1] at this; exact this)
      rw [s2] at h_1
      rcases Nat.eq_zero_or_pos S with h | h
      · exact e.1 (by rw [s2, h]; rfl)
      · exact nI_nle h (by omega) h_1
    refine V_iconst (v := 0) (pc := 15) C dX10_mayBeTied_15 (by decide) ?_
    refine V_zret (pc := 16) C hr hlk rfl dX10_mayBeTied_16 ⟨_, rfl, ?_⟩
    exact ⟨rfl, bP_f hno⟩
  · refine V_iload_n (pc := 4) C 1 dX10_mayBeTied_4 rfl rfl ?_
    refine V_aload_n (pc := 5) C 0 dX10_mayBeTied_5 rfl rfl ?_
    refine call_X10_288 (pc := 6) C (c_X10_left (d := d - 1) hG M) (by omega) (wg hG (by decide) (by decide)) (Nat.le_of_ble_eq_true rfl) dX10_mayBeTied_6 (fun x_6 M_6 h_6 => ?_)
    obtain ⟨e_6, rfl⟩ := h_6
    have e_6 := e_6.symm
    subst e_6
    refine V_iconst (v := -1) (pc := 9) C dX10_mayBeTied_9 (by decide) ?_
    refine V_ixor (pc := 10) C dX10_mayBeTied_10 ?_
    refine V_iand (pc := 11) C dX10_mayBeTied_11 ?_
    rw [hlf]
    refine V_if_eq (tgt := 17) (pc := 12) C dX10_mayBeTied_12 (by decide) (fun h_12 => ?_) (fun h_12 => ?_)
    · obtain ⟨S, s1, s2, s3⟩ := sub_nI hU.2.2 h_12
      have s0 : 0 < S := by
        rcases Nat.eq_zero_or_pos S with h | h
        · rw [s2, h] at h_1
          exact absurd (Int32.le_refl _) h_1
        · exact h
      have hk := hkt S s2 s1 s3 s0
      subst s2
      refine V_iconst (v := 0) (pc := 17) C dX10_mayBeTied_17 (by decide) ?_
      refine Vs_istore_n (lv' := [(0, _), (1, _), (2, _)]) (pc := 18) C dX10_mayBeTied_18 rfl (by decide) rfl rfl ?_
      refine V_iconst (v := 0) (pc := 19) C dX10_mayBeTied_19 (by decide) ?_
      refine Vs_istore_n (lv' := [(0, _), (1, _), (2, _), (3, _)]) (pc := 20) C dX10_mayBeTied_20 rfl (by decide) rfl rfl ?_
      refine lp_X10_mayBeTied C hr hlk hG (by omega) hC s1 _ nt 0 (0, 0, 0, -1) (by omega) ⟨rfl, ?_⟩
      by_cases h : pc7 S = 1 ∨ (tRun M0 (nI S) 0 nt (0, 0, 0, -1)).1 ≤ M0.1 26 0 7
      · rw [if_pos h]
        exact bP_t (hk.mpr h)
      · rw [if_neg h]
        exact bP_f (fun e => h (hk.mp e))
    · have hno : ¬ kTied M0 nt v := fun e => h_12 (by have := e.2.1; rw [hU.1] at this; exact this)
      refine V_iconst (v := 0) (pc := 15) C dX10_mayBeTied_15 (by decide) ?_
      refine V_zret (pc := 16) C hr hlk rfl dX10_mayBeTied_16 ⟨_, rfl, ?_⟩
      exact ⟨rfl, bP_f hno⟩
theorem kTied_cnt {M0 : wS} {nt O : Nat} (hn7 : nt ≤ 7) (hU : uO M0 nt O) {v : Int32} (h : kTied M0 nt v) : ¬ (kTieQ M0 nt v).2.2.1 = 0 := by
  obtain ⟨S, s1, s2, s3⟩ := sub_nI hU.2.2 (by have := h.2.1; rw [hU.1] at this; exact this)
  have hS2 : S < 2 ^ nt := by
    rw [← s3]
    exact Nat.lt_of_le_of_lt Nat.and_le_right hU.2.1
  have hc := tRun_cnt M0 s1 nt 0 (0, 0, 0, -1) 0 (by omega) rfl
  rw [cntB_pc hn7 hS2 s1, Nat.zero_add] at hc
  have hp := pc7_lt S s1
  unfold kTieQ
  rw [s2, hc]
  refine nI_ne0 (Nat.pos_of_ne_zero (fun e => h.1 ?_)) (by omega)
  rw [s2, hp.2.mp e]
  rfl
theorem r_cost (hG : 56 ≤ G) (hd : 44 ≤ d) {M0 M : wS} {nb nt r e1 e2 e3 O : Nat} (hC : rC M0 M nb nt r e1 e2 e3) (hU : uO M0 nt O) (buyer v n : Int32) : Ctr l D cy ad G d yX10_cost cX10_cost 4 (some .int) [.ref (ad 30 0), .int buyer, .int v, .int n] M (rI fun x M' => qF M M' ∧ (kOKc M0 nb nt buyer v n → x = kCost (kTieM M0 nt v) r e1 e2 buyer.toNatClampNeg (M0.1 28 0 buyer.toNatClampNeg) n) ∧ (¬ kOKc M0 nb nt buyer v n → x = -2)) := by
  have hnb := hC.1.1
  refine Ctr.of (lv0 := [(0, _), (1, _), (2, _), (3, _)]) (by decide) (Nat.le_of_ble_eq_true rfl) rfl ?_
  intro p e s m args below meth c C hr hlk _
  have C : CX p s m args c cX10_cost 4 "CostsAgeModel" D cy ad G (wA ad G) (Rm d) d 0 0 := C
  refine V_aload_n (pc := 0) C 0 dX10_cost_0 rfl rfl ?_
  refine V_iload_n (pc := 1) C 1 dX10_cost_1 rfl rfl ?_
  refine call_X10_132 (pc := 2) C (c_X10_isBuyer (d := d - 1) hG (by omega) M hC.2.1.1.1 hnb.2 buyer) (by omega) (wg hG (by decide) (by decide)) (Nat.le_of_ble_eq_true rfl) dX10_cost_2 (fun x_2 M_2 h_2 => ?_)
  obtain ⟨e_2, rfl⟩ := h_2
  have e_2 := e_2.symm
  subst e_2
  refine V_if_eq (tgt := 38) (pc := 5) C dX10_cost_5 (by decide) (fun h_5 => ?_) (fun h_5 => ?_)
  · have h_5 := bJ_0.mp h_5
    refine V_bipush (v := -2) (pc := 38) C dX10_cost_38 (by decide) ?_
    refine V_iret (pc := 40) C hr hlk dX10_cost_40 ⟨_, rfl, ?_⟩
    first | exact ⟨qF.rf, fun e => absurd e.1 h_5, fun _ => rfl⟩ | exact ⟨qF.rf, fun e => absurd e.2.2 h_13, fun _ => rfl⟩ | exact ⟨qF.rf, fun e => absurd e.2.1 h_25, fun _ => rfl⟩
  · have h_5 := bJ_1.mp h_5
    refine V_aload_n (pc := 8) C 0 dX10_cost_8 rfl rfl ?_
    refine V_iload_n (pc := 9) C 2 dX10_cost_9 rfl rfl ?_
    refine call_X10_294 (pc := 10) C (r_mayBeTied (d := d - 1) hG (by omega) hC hU v) (by omega) (wg hG (by decide) (by decide)) (Nat.le_of_ble_eq_true rfl) dX10_cost_10 (fun x_10 M_10 h_10 => ?_)
    obtain ⟨e_10, rfl⟩ := h_10
    have e_10 := e_10.symm
    subst e_10
    refine V_if_eq (tgt := 38) (pc := 13) C dX10_cost_13 (by decide) (fun h_13 => ?_) (fun h_13 => ?_)
    · have h_13 := bJ_0.mp h_13
      refine V_bipush (v := -2) (pc := 38) C dX10_cost_38 (by decide) ?_
      refine V_iret (pc := 40) C hr hlk dX10_cost_40 ⟨_, rfl, ?_⟩
      first | exact ⟨qF.rf, fun e => absurd e.1 h_5, fun _ => rfl⟩ | exact ⟨qF.rf, fun e => absurd e.2.2 h_13, fun _ => rfl⟩ | exact ⟨qF.rf, fun e => absurd e.2.1 h_25, fun _ => rfl⟩
    · have h_13 := bJ_1.mp h_13
      refine V_iload_n (pc := 16) C 3 dX10_cost_16 rfl rfl ?_
      refine V_i2l (pc := 17) C dX10_cost_17 ?_
      refine V_lconst (v := 0) (pc := 18) C dX10_cost_18 (by decide) ?_
      refine V_ldc2 (pc := 19) C dX10_cost_19 qk_X10_273 ?_
      refine call_X10_106 (pc := 22) C (c_in (d := d - 1) M n 0 103 (by decide) (by decide)) (by omega) (Nat.le_of_ble_eq_true rfl) dX10_cost_22 (fun x_22 M_22 h_22 => ?_)
      obtain ⟨e_22, rfl⟩ := h_22
      have e_22 := e_22.symm
      subst e_22
      refine V_if_eq (tgt := 38) (pc := 25) C dX10_cost_25 (by decide) (fun h_25 => ?_) (fun h_25 => ?_)
      · have h_25 := bJ_0.mp h_25
        refine V_bipush (v := -2) (pc := 38) C dX10_cost_38 (by decide) ?_
        refine V_iret (pc := 40) C hr hlk dX10_cost_40 ⟨_, rfl, ?_⟩
        first | exact ⟨qF.rf, fun e => absurd e.1 h_5, fun _ => rfl⟩ | exact ⟨qF.rf, fun e => absurd e.2.2 h_13, fun _ => rfl⟩ | exact ⟨qF.rf, fun e => absurd e.2.1 h_25, fun _ => rfl⟩
      · have h_25 := bJ_1.mp h_25
        obtain ⟨k, hk, rfl⟩ := ix_of h_5.1 h_5.2 (by omega)
        refine V_aload_n (pc := 28) C 0 dX10_cost_28 rfl rfl ?_
        refine V_iload_n (pc := 29) C 1 dX10_cost_29 rfl rfl ?_
        refine V_iload_n (pc := 30) C 2 dX10_cost_30 rfl rfl ?_
        refine V_iload_n (pc := 31) C 3 dX10_cost_31 rfl rfl ?_
        refine call_X10_297 (pc := 32) C (r_costOf (d := d - 1) hG (by omega) hC (shw_tie hC.1.2.1.2 (kTied_cnt hC.1.2.1.2 hU h_13)) (k := k) (by omega) h_25) (by omega) (wg hG (by decide) (by decide)) (Nat.le_of_ble_eq_true rfl) dX10_cost_32 (fun x_32 M_32 h_32 => ?_)
        obtain ⟨f1, f2⟩ := h_32
        refine V_goto (tgt := 40) (pc := 35) C dX10_cost_35 (by decide) ?_
        refine V_iret (pc := 40) C hr hlk dX10_cost_40 ⟨_, rfl, ?_⟩
        exact ⟨f1.q (by decide), fun _ => by rw [nI_clamp (by omega)]; exact f2, fun e => absurd ⟨h_5, h_25, h_13⟩ e⟩
end S59
