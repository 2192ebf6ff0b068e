def gStep (b : Nat) (c g : Int32) (q : Int32 × Int32) : Int32 × Int32 := if 0 ≤ c then (if q.1 < 0 then (nI b, g) else if g ≤ q.2 then q else (nI b, g)) else q
def gRun (c g : Nat → Int32) : Nat → Nat → (Int32 × Int32) → (Int32 × Int32)
  | _, 0, q => q
  | b, n + 1, q => gRun c g (b + 1) n (gStep b (c b) (g b) q)
def kCostN (M : wS) (r e1 e2 b : Nat) : Int32 := kCost M r e1 e2 b (M.1 28 0 b) 0
def kGainN (M : wS) (r e1 e2 e3 b : Nat) : Int32 := pHeld (xVal (kEnv M b (M.1 28 0 b) 0) (M.1 8 r) e2 (e3 - e2)) - kCost M r e1 e2 b (M.1 28 0 b) 0
theorem ushr10 (z : Int32) : ∃ a, a < 4194304 ∧ (z.toUInt32 >>> ((10 : Int32).toUInt32 &&& Int32.toUInt32 31)).toInt32 = nI a := by
  refine ⟨z.toBitVec.toNat / 2 ^ 10, ?_, ?_⟩
  · have := z.toBitVec.isLt
    omega
  · have h := pk_ushr z 10 10 (by decide)
    rw [← h]
    apply Int32.toBitVec_inj.mp
    have h2 := z.toBitVec.isLt
    apply BitVec.eq_of_toNat_eq
    simp only [nI, Int32.toBitVec_ofNat', BitVec.toNat_ofNat]
    rw [Nat.mod_eq_of_lt]
    rw [h]
    omega
def dStep (M : wS) (nb r e1 e2 t : Nat) (q : Int32 × Int32) : Int32 × Int32 :=
  (q.1 * 1103515245 + 12345, q.2 + (if 0 < kPrice (kAlone M t) r e1 e2 ((((q.1 * 1103515245 + 12345).toUInt32 >>> ((10 : Int32).toUInt32 &&& Int32.toUInt32 31)).toInt32).toNatClampNeg % nb) (M.1 28 0 ((((q.1 * 1103515245 + 12345).toUInt32 >>> ((10 : Int32).toUInt32 &&& Int32.toUInt32 31)).toInt32).toNatClampNeg % nb)) 0 then kPrice (kAlone M t) r e1 e2 ((((q.1 * 1103515245 + 12345).toUInt32 >>> ((10 : Int32).toUInt32 &&& Int32.toUInt32 31)).toInt32).toNatClampNeg % nb) (M.1 28 0 ((((q.1 * 1103515245 + 12345).toUInt32 >>> ((10 : Int32).toUInt32 &&& Int32.toUInt32 31)).toInt32).toNatClampNeg % nb)) 0 else 0))
noncomputable def dRun (M : wS) (nb r e1 e2 : Nat) : Nat → Nat → (Int32 × Int32) → (Int32 × Int32)
  | _, 0, q => q
  | t, n + 1, q => dRun M nb r e1 e2 (t + 1) n (@ite _ (hasB (M.1 26 0 3) t) (Classical.propDecidable _) q (dStep M nb r e1 e2 t q))
section S21
variable {l : Launch} {D : va_G} {cy : Nat → ClassId} {ad : Nat → Nat → Nat} {G d : Nat}
theorem c_X9_gainsNow (hG : 30 ≤ G) (hd : 3 ≤ d) (M : wS) {r e1 e2 e3 : Nat} (hX : IX M r e1 e2 e3) : Ctr l D cy ad G d yX9_gainsNow cX9_gainsNow 2 (some .int) [.ref (ad 0 0)] M (rI fun x M' => (∃ f, M' = mrow M 15 0 f) ∧ x = pHeld (xVal (M.1 14 0) (M.1 8 r) e2 (e3 - e2))) := by
  obtain ⟨hr0, hr6, hx1, hx2, hx3, h12, h23, h160⟩ := hX
  refine Ctr.of (lv0 := [(0, _)]) (by decide) (Nat.le_of_ble_eq_true rfl) rfl ?_
  intro p e s m args below meth c C hr hlk _
  have C : CX p s m args c cX9_gainsNow 2 "CostsAge" D cy ad G (wA ad G) (Rm d) d 0 0 := C
  refine V_aload_n (pc := 0) C 0 dX9_gainsNow_0 rfl rfl ?_
  refine get_X9_23 (pc := 1) C (wg hG (by decide) (by decide)) dX9_gainsNow_1 ?_
  refine V_aload_n (pc := 4) C 0 dX9_gainsNow_4 rfl rfl ?_
  refine get_X9_64 (pc := 5) C (wg hG (by decide) (by decide)) dX9_gainsNow_5 ?_
  refine get_X9_173 (pc := 8) C (wg hG (by decide) (by decide)) dX9_gainsNow_8 ?_
  refine V_aald (pc := 11) C (r) hr0 hr6 (Nat.le_of_ble_eq_true rfl) (wg hG (by decide) (by decide)) wF_3 rfl dX9_gainsNow_11 ?_
  refine Vs_astore_n (lv' := [(0, _), (1, _)]) (pc := 12) C dX9_gainsNow_12 rfl (by decide) rfl rfl ?_
  refine V_aload_n (pc := 13) C 0 dX9_gainsNow_13 rfl rfl ?_
  refine get_X9_43 (pc := 14) C (wg hG (by decide) (by decide)) dX9_gainsNow_14 ?_
  refine V_aload_n (pc := 17) C 1 dX9_gainsNow_17 rfl rfl ?_
  refine get_X9_225 (pc := 18) C (wg hG (by decide) (show (r) < 6 from hr6)) dX9_gainsNow_18 ?_
  refine V_aload_n (pc := 21) C 1 dX9_gainsNow_21 rfl rfl ?_
  refine get_X9_234 (pc := 22) C (wg hG (by decide) (show (r) < 6 from hr6)) dX9_gainsNow_22 ?_
  refine V_aload_n (pc := 25) C 1 dX9_gainsNow_25 rfl rfl ?_
  refine get_X9_287 (pc := 26) C (wg hG (by decide) (show (r) < 6 from hr6)) dX9_gainsNow_26 ?_
  refine V_st (st' := [.int (nI e3), .int (nI e2), .ref (ad 8 r), .ref (ad 13 0)]) (by rw [hx2, hx3]) ?_
  refine call_X9_231 (pc := 29) C (c_X4_worth (d := d - 1) hG (by omega) M hr6 (a := e2) (b := e3) (by omega) (by omega)) (by omega) (wg hG (by decide) (by decide)) (Nat.le_of_ble_eq_true rfl) dX9_gainsNow_29 (fun x_29 M_29 h_29 => ?_)
  obtain ⟨h_f, rfl⟩ := h_29
  refine call_X9_237 (pc := 32) C (c_X9_held (d := d - 1) (by omega) _ _) (by omega) (Nat.le_of_ble_eq_true rfl) dX9_gainsNow_32 (fun x_32 M_32 h_32 => ?_)
  obtain ⟨e_32, rfl⟩ := h_32
  have e_32 := e_32.symm
  subst e_32
  refine V_iret (pc := 35) C hr hlk dX9_gainsNow_35 ⟨_, rfl, ?_⟩
  exact ⟨h_f, rfl⟩
theorem lp_X9_gain {p : Program} {e : Env} {s : State} {m : MethodId} {args : Array Value} {below : List Frame} {meth : Method} {c : Code} (C : CX p s m args c cX9_gain 8 "CostsAge" D cy ad G (wA ad G) (Rm d) d 0 0) (hr : meth.sig.returnType = (some .long)) (hlk : meth.locks = false) (hG : 30 ≤ G) (hd : 5 ≤ d) (M : wS) {nb nt r e1 e2 e3 : Nat} (hP : IP M nb nt r e1 e2 e3) (th what : Int32) (Qf : Int64 → wS → Prop) : ∀ (n b : Nat) (q : Int32 × Int32) (M1 : wS), b + n = nb → Sc M M1 → (∀ M' q', Sc M M' → q' = gRun (kCostN M r e1 e2) (kGainN M r e1 e2 e3) b n q → Qf (if 0 ≤ q'.1 then (if what = 0 then q'.2.toInt64 else q'.1.toInt64) else -4611686018427387904) M') → V p l e (Rm d) s m args below meth c 8 D cy ad G (wA ad G) 0 0 (MQ below (wQ D cy ad G (rL Qf)) args s 0 0 (wA ad G)) 36 [(0, .ref (ad 0 0)), (1, .int th), (2, .int what), (3, .int q.1), (4, .int q.2), (5, .int (nI b))] [] M1 := by
  obtain ⟨⟨hnb, hn7⟩, -, hX, hB, hw⟩ := id hP
  intro n
  induction n with
  | zero =>
    intro b q M1 hb hS hq
    refine V_iload (pc := 36) C 5 dX9_gain_36 rfl ?_
    refine V_aload_n (pc := 38) C 0 dX9_gain_38 rfl rfl ?_
    refine get_X9_106 (pc := 39) C (wg hG (by decide) (by decide)) dX9_gain_39 ?_
    refine V_icmp_ge (tgt := 105) (pc := 42) C dX9_gain_42 (by decide) (fun h_42 => ?_) (fun h_42 => ?_)
    · refine V_iload_n (pc := 105) C 3 dX9_gain_105 rfl rfl ?_
      refine V_if_ge (tgt := 113) (pc := 106) C dX9_gain_106 (by decide) (fun h_106 => ?_) (fun h_106 => ?_)
      · refine V_iload_n (pc := 113) C 2 dX9_gain_113 rfl rfl ?_
        refine V_if_ne (tgt := 123) (pc := 114) C dX9_gain_114 (by decide) (fun h_114 => ?_) (fun h_114 => ?_)
        · refine V_iload_n (pc := 123) C 3 dX9_gain_123 rfl rfl ?_
          refine V_i2l (pc := 124) C dX9_gain_124 ?_
          refine V_lret (pc := 125) C hr hlk dX9_gain_125 ⟨_, rfl, ?_⟩
          simpa only [if_pos h_106, if_neg h_114] using hq M1 q hS rfl
        · refine V_iload (pc := 117) C 4 dX9_gain_117 rfl ?_
          refine V_i2l (pc := 119) C dX9_gain_119 ?_
          refine V_goto (tgt := 125) (pc := 120) C dX9_gain_120 (by decide) ?_
          refine V_lret (pc := 125) C hr hlk dX9_gain_125 ⟨_, rfl, ?_⟩
          simpa only [if_pos h_106, if_pos h_114] using hq M1 q hS rfl
      · refine V_ldc2 (pc := 109) C dX9_gain_109 qk_X9_282 ?_
        refine V_lret (pc := 112) C hr hlk dX9_gain_112 ⟨_, rfl, ?_⟩
        simpa only [if_neg h_106] using hq M1 q hS rfl
    · rw [hS.1 0 0 (by decide) (by decide), hnb] at h_42
      exact absurd (nI_le (by omega) (by omega)) h_42
  | succ n ih =>
    intro b q M1 hb hS hq
    have hq2 : ∀ M' q', Sc M M' → q' = gRun (kCostN M r e1 e2) (kGainN M r e1 e2 e3) (b + 1) n (gStep b (kCostN M r e1 e2 b) (kGainN M r e1 e2 e3 b) q) → Qf (if 0 ≤ q'.1 then (if what = 0 then q'.2.toInt64 else q'.1.toInt64) else -4611686018427387904) M' := hq
    have hkg : kGainN M r e1 e2 e3 b = pHeld (xVal (kEnv M b (M.1 28 0 b) 0) (M.1 8 r) e2 (e3 - e2)) - kCostN M r e1 e2 b := rfl
    rw [hkg] at hq2
    clear hkg hq
    refine V_iload (pc := 36) C 5 dX9_gain_36 rfl ?_
    refine V_aload_n (pc := 38) C 0 dX9_gain_38 rfl rfl ?_
    refine get_X9_106 (pc := 39) C (wg hG (by decide) (by decide)) dX9_gain_39 ?_
    refine V_icmp_ge (tgt := 105) (pc := 42) C dX9_gain_42 (by decide) (fun h_42 => ?_) (fun h_42 => ?_)
    · rw [hS.1 0 0 (by decide) (by decide), hnb] at h_42
      exact absurd h_42 (nI_ge (by omega) (by omega))
    · refine V_aload_n (pc := 45) C 0 dX9_gain_45 rfl rfl ?_
      refine V_iload (pc := 46) C 5 dX9_gain_46 rfl ?_
      refine V_aload_n (pc := 48) C 0 dX9_gain_48 rfl rfl ?_
      refine get_X9_64 (pc := 49) C (wg hG (by decide) (by decide)) dX9_gain_49 ?_
      refine get_X9_122 (pc := 52) C (wg hG (by decide) (by decide)) dX9_gain_52 ?_
      refine V_iload (pc := 55) C 5 dX9_gain_55 rfl ?_
      refine V_iald (pc := 57) C (b) rfl (by omega) (Nat.le_of_ble_eq_true rfl) (wg hG (by decide) (by decide)) wF_28 dX9_gain_57 ?_
      refine V_iconst (v := 0) (pc := 58) C dX9_gain_58 (by decide) ?_
      refine call_X9_183 (pc := 59) C (c_X9_costBy (d := d - 1) hG (by omega) M1 (hX.sc hS) (hB.sc hS) (by rw [hS.1 26 0 (by decide) (by decide)]; exact hw) (k := b) (by omega) _ 0 (by decide)) (by omega) (wg hG (by decide) (by decide)) (Nat.le_of_ble_eq_true rfl) dX9_gain_59 (fun x_59 M_59 h_59 => ?_)
      obtain ⟨⟨f_1, e_1⟩, rfl⟩ := h_59
      have hS2 : Sc M M_59 := hS.tr (e_1 ▸ Sc.env)
      have hnm : M_59.1 14 0 = kEnv M1 b (M1.1 28 0 b) 0 := by rw [e_1, mrow_ne _ _ _ _ (by decide), mrow_self]
      clear e_1
      rw [kCost_sc hS, hS.1 28 0 (by decide) (by decide)]
      rw [hS.1 28 0 (by decide) (by decide)] at hnm
      rw [show kCost M r e1 e2 b (M.1 28 0 b) 0 = kCostN M r e1 e2 b from rfl]
      generalize kCostN M r e1 e2 b = v at hq2 ⊢
      refine Vs_istore (lv' := [(0, _), (1, _), (2, _), (3, _), (4, _), (5, _), (6, _)]) (pc := 62) C dX9_gain_62 (by decide) rfl rfl ?_
      refine V_iload (pc := 64) C 6 dX9_gain_64 rfl ?_
      refine V_if_ge (tgt := 72) (pc := 66) C dX9_gain_66 (by decide) (fun h_66 => ?_) (fun h_66 => ?_)
      · refine V_aload_n (pc := 72) C 0 dX9_gain_72 rfl rfl ?_
        refine call_X9_284 (pc := 73) C (c_X9_gainsNow (d := d - 1) hG (by omega) M_59 (hX.sc hS2)) (by omega) (wg hG (by decide) (by decide)) (Nat.le_of_ble_eq_true rfl) dX9_gain_73 (fun x_73 M_73 h_73 => ?_)
        obtain ⟨⟨f_2, e_2⟩, rfl⟩ := h_73
        have hS3 : Sc M M_73 := by
          refine hS2.tr ?_
          rw [e_2]
          exact ⟨fun g i a1 a2 => mrow_ne _ _ _ _ (fun z => a2 z.1), by rw [mrow_ne _ _ _ _ (by decide)], by rw [mrow_ne _ _ _ _ (by decide)], rfl⟩
        clear e_2
        rw [hnm, hS2.1 8 r (by decide) (by decide), xVal_congr (kEnv_sc hS b (M.1 28 0 b) 0)]
        generalize pHeld (xVal (kEnv M b (M.1 28 0 b) 0) (M.1 8 r) e2 (e3 - e2)) = w at hq2 ⊢
        refine V_iload (pc := 76) C 6 dX9_gain_76 rfl ?_
        refine V_isub (pc := 78) C dX9_gain_78 ?_
        refine Vs_istore (lv' := [(0, _), (1, _), (2, _), (3, _), (4, _), (5, _), (6, _), (7, _)]) (pc := 79) C dX9_gain_79 (by decide) rfl rfl ?_
        refine V_iload_n (pc := 81) C 3 dX9_gain_81 rfl rfl ?_
        refine V_if_lt (tgt := 92) (pc := 82) C dX9_gain_82 (by decide) (fun h_82 => ?_) (fun h_82 => ?_)
        · refine V_iload (pc := 92) C 5 dX9_gain_92 rfl ?_
          refine Vs_istore_n (lv' := [(0, _), (1, _), (2, _), (3, _), (4, _), (5, _), (6, _), (7, _)]) (pc := 94) C dX9_gain_94 rfl (by decide) rfl rfl ?_
          refine V_iload (pc := 95) C 7 dX9_gain_95 rfl ?_
          refine Vs_istore (lv' := [(0, _), (1, _), (2, _), (3, _), (4, _), (5, _), (6, _), (7, _)]) (pc := 97) C dX9_gain_97 (by decide) rfl rfl ?_
          refine Vs_iinc (v := nI (b + 1)) (lv' := [(0, _), (1, _), (2, _), (3, _), (4, _), (5, _), (6, _), (7, _)]) (pc := 99) C 5 dX9_gain_99 rfl (by decide) rfl (nI_i1 (b)) rfl ?_
          refine V_goto (tgt := 36) (pc := 102) C dX9_gain_102 (by decide) ?_
          refine V_loc (lv' := [(0, _), (1, _), (2, _), (3, _), (4, _), (5, _)]) [0, 1, 2, 3, 4, 5] rfl ?_
          exact ih (b + 1) (nI b, w - v) _ (by omega) hS3 (by simpa only [gStep, if_pos h_66, if_pos h_82] using hq2)
        · refine V_iload (pc := 85) C 7 dX9_gain_85 rfl ?_
          refine V_iload (pc := 87) C 4 dX9_gain_87 rfl ?_
          refine V_icmp_le (tgt := 99) (pc := 89) C dX9_gain_89 (by decide) (fun h_89 => ?_) (fun h_89 => ?_)
          · refine Vs_iinc (v := nI (b + 1)) (lv' := [(0, _), (1, _), (2, _), (3, _), (4, _), (5, _), (6, _), (7, _)]) (pc := 99) C 5 dX9_gain_99 rfl (by decide) rfl (nI_i1 (b)) rfl ?_
            refine V_goto (tgt := 36) (pc := 102) C dX9_gain_102 (by decide) ?_
            refine V_loc (lv' := [(0, _), (1, _), (2, _), (3, _), (4, _), (5, _)]) [0, 1, 2, 3, 4, 5] rfl ?_
            exact ih (b + 1) q _ (by omega) hS3 (by simpa only [gStep, if_pos h_66, if_neg h_82, if_pos h_89] using hq2)
          · refine V_iload (pc := 92) C 5 dX9_gain_92 rfl ?_
            refine Vs_istore_n (lv' := [(0, _), (1, _), (2, _), (3, _), (4, _), (5, _), (6, _), (7, _)]) (pc := 94) C dX9_gain_94 rfl (by decide) rfl rfl ?_
            refine V_iload (pc := 95) C 7 dX9_gain_95 rfl ?_
            refine Vs_istore (lv' := [(0, _), (1, _), (2, _), (3, _), (4, _), (5, _), (6, _), (7, _)]) (pc := 97) C dX9_gain_97 (by decide) rfl rfl ?_
            refine Vs_iinc (v := nI (b + 1)) (lv' := [(0, _), (1, _), (2, _), (3, _), (4, _), (5, _), (6, _), (7, _)]) (pc := 99) C 5 dX9_gain_99 rfl (by decide) rfl (nI_i1 (b)) rfl ?_
            refine V_goto (tgt := 36) (pc := 102) C dX9_gain_102 (by decide) ?_
            refine V_loc (lv' := [(0, _), (1, _), (2, _), (3, _), (4, _), (5, _)]) [0, 1, 2, 3, 4, 5] rfl ?_
            exact ih (b + 1) (nI b, w - v) _ (by omega) hS3 (by simpa only [gStep, if_pos h_66, if_neg h_82, if_neg h_89] using hq2)
      · refine V_goto (tgt := 99) (pc := 69) C dX9_gain_69 (by decide) ?_
        refine Vs_iinc (v := nI (b + 1)) (lv' := [(0, _), (1, _), (2, _), (3, _), (4, _), (5, _), (6, _)]) (pc := 99) C 5 dX9_gain_99 rfl (by decide) rfl (nI_i1 (b)) rfl ?_
        refine V_goto (tgt := 36) (pc := 102) C dX9_gain_102 (by decide) ?_
        refine V_loc (lv' := [(0, _), (1, _), (2, _), (3, _), (4, _), (5, _)]) [0, 1, 2, 3, 4, 5] rfl ?_
        exact ih (b + 1) q _ (by omega) hS2 (by simpa only [gStep, if_neg h_66] using hq2)
def kGain (M : wS) (nb r e1 e2 e3 t : Nat) : Int32 × Int32 := gRun (kCostN (kAlone M t) r e1 e2) (kGainN (kAlone M t) r e1 e2 e3) 0 nb (-1, 0)
theorem c_X9_gain (hG : 30 ≤ G) (hd : 5 ≤ d) (M : wS) {nb nt r e1 e2 e3 : Nat} (hP : IP M nb nt r e1 e2 e3) (th what : Int32) : Ctr l D cy ad G d yX9_gain cX9_gain 8 (some .long) [.ref (ad 0 0), .int th, .int what] M (rL fun x M' => Scr M M' ∧ ((0 ≤ th ∧ th < nI nt) ∧ (0 ≤ what ∧ what ≤ 1) ∧ ¬ hasB (M.1 26 0 3) th.toNatClampNeg → x = if 0 ≤ (kGain M nb r e1 e2 e3 th.toNatClampNeg).1 then (if what = 0 then (kGain M nb r e1 e2 e3 th.toNatClampNeg).2.toInt64 else (kGain M nb r e1 e2 e3 th.toNatClampNeg).1.toInt64) else -4611686018427387904) ∧ (¬ ((0 ≤ th ∧ th < nI nt) ∧ (0 ≤ what ∧ what ≤ 1) ∧ ¬ hasB (M.1 26 0 3) th.toNatClampNeg) → x = -4611686018427387904)) := by
  obtain ⟨⟨hnb, hn7⟩, ⟨hnt, ht7⟩, hX, hB, hw⟩ := id hP
  refine Ctr.of (lv0 := [(0, _), (1, _), (2, _)]) (by decide) (Nat.le_of_ble_eq_true rfl) rfl ?_
  intro p e s m args below meth c C hr hlk _
  have C : CX p s m args c cX9_gain 8 "CostsAge" D cy ad G (wA ad G) (Rm d) d 0 0 := C
  refine V_aload_n (pc := 0) C 0 dX9_gain_0 rfl rfl ?_
  refine V_iload_n (pc := 1) C 1 dX9_gain_1 rfl rfl ?_
  refine call_X9_147 (pc := 2) C (c_X9_isWare (d := d - 1) hG M _) (by omega) (wg hG (by decide) (by decide)) (Nat.le_of_ble_eq_true rfl) dX9_gain_2 (fun x_2 M_2 h_2 => ?_)
  obtain ⟨e_2, rfl⟩ := h_2
  have e_2 := e_2.symm
  subst e_2
  refine V_if_eq (tgt := 24) (pc := 5) C dX9_gain_5 (by decide) (fun h_5 => ?_) (fun h_5 => ?_)
  · have h_5 := bJ_0.mp h_5
    rw [hnt] at h_5
    refine V_ldc2 (pc := 24) C dX9_gain_24 qk_X9_282 ?_
    refine V_lret (pc := 27) C hr hlk dX9_gain_27 ⟨_, rfl, ?_⟩
    exact ⟨Scr.rf, fun z => absurd z.1 h_5, fun _ => rfl⟩
  · have h_5 := bJ_1.mp h_5
    rw [hnt] at h_5
    obtain ⟨k, hk, rfl⟩ := ix_of h_5.1 h_5.2 (by omega)
    have ek : (nI k).toNatClampNeg = k := nI_clamp (by omega)
    refine V_iload_n (pc := 8) C 2 dX9_gain_8 rfl rfl ?_
    refine V_iconst (v := 1) (pc := 9) C dX9_gain_9 (by decide) ?_
    refine call_X9_102 (pc := 10) C (c_X9_isWithin (d := d - 1) M _ _) (by omega) (Nat.le_of_ble_eq_true rfl) dX9_gain_10 (fun x_10 M_10 h_10 => ?_)
    obtain ⟨e_10, rfl⟩ := h_10
    have e_10 := e_10.symm
    subst e_10
    refine V_if_eq (tgt := 24) (pc := 13) C dX9_gain_13 (by decide) (fun h_13 => ?_) (fun h_13 => ?_)
    · have h_13 := bJ_0.mp h_13
      refine V_ldc2 (pc := 24) C dX9_gain_24 qk_X9_282 ?_
      refine V_lret (pc := 27) C hr hlk dX9_gain_27 ⟨_, rfl, ?_⟩
      exact ⟨Scr.rf, fun z => absurd z.2.1 h_13, fun _ => rfl⟩
    · have h_13 := bJ_1.mp h_13
      refine V_aload_n (pc := 16) C 0 dX9_gain_16 rfl rfl ?_
      refine V_iload_n (pc := 17) C 1 dX9_gain_17 rfl rfl ?_
      refine call_X9_192 (pc := 18) C (c2_X9_showAlone (d := d - 1) hG (by omega) M (t := k) (by omega)) (by omega) (wg hG (by decide) (by decide)) (Nat.le_of_ble_eq_true rfl) dX9_gain_18 (fun x_18 M_18 h_18 => ?_)
      obtain ⟨rfl, h_t1, h_t0⟩ := h_18
      refine V_if_ne (tgt := 28) (pc := 21) C dX9_gain_21 (by decide) (fun h_21 => ?_) (fun h_21 => ?_)
      · have h_21 := bJ_1.mp h_21
        have e9 := h_t1 h_21
        subst e9
        refine V_iconst (v := -1) (pc := 28) C dX9_gain_28 (by decide) ?_
        refine Vs_istore_n (lv' := [(0, _), (1, _), (2, _), (3, _)]) (pc := 29) C dX9_gain_29 rfl (by decide) rfl rfl ?_
        refine V_iconst (v := 0) (pc := 30) C dX9_gain_30 (by decide) ?_
        refine Vs_istore (lv' := [(0, _), (1, _), (2, _), (3, _), (4, _)]) (pc := 31) C dX9_gain_31 (by decide) rfl rfl ?_
        refine V_iconst (v := 0) (pc := 33) C dX9_gain_33 (by decide) ?_
        refine Vs_istore (lv' := [(0, _), (1, _), (2, _), (3, _), (4, _), (5, _)]) (pc := 34) C dX9_gain_34 (by decide) rfl rfl ?_
        refine lp_X9_gain C hr hlk hG hd (kAlone M k) (hP.scr (kAlone_scr M k)) _ _ _ nb 0 (-1, 0) (kAlone M k) (by omega) Sc.rf ?_
        rintro M' q' hS rfl
        refine ⟨(kAlone_scr M k).tr hS.scr, fun _ => ?_, fun z => absurd ⟨h_5, h_13, by rw [ek]; exact h_21⟩ z⟩
        rw [ek]
        rfl
      · have h_21 := bJ_0.mp h_21
        have h_b := Classical.not_not.mp h_21
        have e9 := (h_t0 h_b).symm
        subst e9
        refine V_ldc2 (pc := 24) C dX9_gain_24 qk_X9_282 ?_
        refine V_lret (pc := 27) C hr hlk dX9_gain_27 ⟨_, rfl, ?_⟩
        exact ⟨Scr.rf, fun z => absurd (by rw [ek]; exact h_b) z.2.2, fun _ => rfl⟩
theorem lp_X9_drawn {p : Program} {e : Env} {s : State} {m : MethodId} {args : Array Value} {below : List Frame} {meth : Method} {c : Code} (C : CX p s m args c cX9_drawn 6 "CostsAge" D cy ad G (wA ad G) (Rm d) d 0 0) (hr : meth.sig.returnType = (some .int)) (hlk : meth.locks = false) (hG : 30 ≤ G) (hd : 4 ≤ d) (M : wS) {nb nt r e1 e2 e3 : Nat} (hP : IP M nb nt r e1 e2 e3) (hb0 : 0 < nb) (seed : Int32) (Qf : Int32 → wS → Prop) : ∀ (n t : Nat) (q : Int32 × Int32) (M1 : wS), t + n = nt → Scr M M1 → (∀ M', Scr M M' → Qf (dRun M nb r e1 e2 t n q).2 M') → V p l e (Rm d) s m args below meth c 6 D cy ad G (wA ad G) 0 0 (MQ below (wQ D cy ad G (rI Qf)) args s 0 0 (wA ad G)) 16 [(0, .ref (ad 0 0)), (1, .int seed), (2, .int q.1), (3, .int q.2), (4, .int (nI t))] [] M1 := by
  obtain ⟨⟨hnb, hn7⟩, ⟨hnt, ht7⟩, -⟩ := id hP
  intro n
  induction n with
  | zero =>
    intro t q M1 ht hS hq
    refine V_iload (pc := 16) C 4 dX9_drawn_16 rfl ?_
    refine V_aload_n (pc := 18) C 0 dX9_drawn_18 rfl rfl ?_
    refine get_X9_124 (pc := 19) C (wg hG (by decide) (by decide)) dX9_drawn_19 ?_
    refine V_icmp_ge (tgt := 85) (pc := 22) C dX9_drawn_22 (by decide) (fun h_22 => ?_) (fun h_22 => ?_)
    · refine V_iload_n (pc := 85) C 3 dX9_drawn_85 rfl rfl ?_
      refine V_iret (pc := 86) C hr hlk dX9_drawn_86 ⟨_, rfl, ?_⟩
      exact hq M1 hS
    · rw [hS.1 0 0 (by decide), hnt] at h_22
      exact absurd (nI_le (by omega) (by omega)) h_22
  | succ n ih =>
    intro t q M1 ht hS hq
    have hq2 : ∀ M', Scr M M' → Qf (dRun M nb r e1 e2 (t + 1) n (@ite _ (hasB (M.1 26 0 3) t) (Classical.propDecidable _) q (dStep M nb r e1 e2 t q))).2 M' := hq
    clear hq
    obtain ⟨a, ha, ea⟩ := ushr10 (q.1 * 1103515245 + 12345)
    have hj : a % nb < nb := Nat.mod_lt _ hb0
    refine V_iload (pc := 16) C 4 dX9_drawn_16 rfl ?_
    refine V_aload_n (pc := 18) C 0 dX9_drawn_18 rfl rfl ?_
    refine get_X9_124 (pc := 19) C (wg hG (by decide) (by decide)) dX9_drawn_19 ?_
    refine V_icmp_ge (tgt := 85) (pc := 22) C dX9_drawn_22 (by decide) (fun h_22 => ?_) (fun h_22 => ?_)
    · rw [hS.1 0 0 (by decide), hnt] at h_22
      exact absurd h_22 (nI_ge (by omega) (by omega))
    · refine V_aload_n (pc := 25) C 0 dX9_drawn_25 rfl rfl ?_
      refine V_iload (pc := 26) C 4 dX9_drawn_26 rfl ?_
      refine call_X9_192 (pc := 28) C (c2_X9_showAlone (d := d - 1) hG (by omega) M1 (t := t) (by omega)) (by omega) (wg hG (by decide) (by decide)) (Nat.le_of_ble_eq_true rfl) dX9_drawn_28 (fun x_28 M_28 h_28 => ?_)
      obtain ⟨rfl, h_t1, h_t0⟩ := h_28
      refine V_if_eq (tgt := 79) (pc := 31) C dX9_drawn_31 (by decide) (fun h_31 => ?_) (fun h_31 => ?_)
      · have h_31 := bJ_0.mp h_31
        have h_b := Classical.not_not.mp h_31
        have e9 := (h_t0 h_b).symm
        subst e9
        rw [hS.1 26 0 (by decide)] at h_b
        refine Vs_iinc (v := nI (t + 1)) (lv' := [(0, _), (1, _), (2, _), (3, _), (4, _)]) (pc := 79) C 4 dX9_drawn_79 rfl (by decide) rfl (nI_i1 (t)) rfl ?_
        refine V_goto (tgt := 16) (pc := 82) C dX9_drawn_82 (by decide) ?_
        exact ih (t + 1) q _ (by omega) hS (by simpa only [if_pos h_b] using hq2)
      · have h_31 := bJ_1.mp h_31
        have e9 := h_t1 h_31
        subst e9
        rw [hS.1 26 0 (by decide)] at h_31
        have hS2 : Scr M (kAlone M1 t) := hS.tr (kAlone_scr M1 t)
        have hP2 := hP.scr hS2
        have hbc : (kShow M1 (M1.1 6 t 0) (M1.1 6 t 1) (M1.1 29 0 t)).1 0 0 11 = nI nb := hP2.1.1
        refine V_iload_n (pc := 34) C 2 dX9_drawn_34 rfl rfl ?_
        refine V_ldcw (pc := 35) C dX9_drawn_35 qk_X9_326 ?_
        refine V_imul (pc := 38) C dX9_drawn_38 ?_
        refine V_sipush (v := 12345) (pc := 39) C dX9_drawn_39 (by decide) ?_
        refine V_iadd (pc := 42) C dX9_drawn_42 ?_
        refine Vs_istore_n (lv' := [(0, _), (1, _), (2, _), (3, _), (4, _)]) (pc := 43) C dX9_drawn_43 rfl (by decide) rfl rfl ?_
        refine V_iload_n (pc := 44) C 2 dX9_drawn_44 rfl rfl ?_
        refine V_bipush (v := 10) (pc := 45) C dX9_drawn_45 (by decide) ?_
        refine V_iushr (pc := 47) C dX9_drawn_47 ?_
        refine V_aload_n (pc := 48) C 0 dX9_drawn_48 rfl rfl ?_
        refine get_X9_106 (pc := 49) C (wg hG (by decide) (by decide)) dX9_drawn_49 ?_
        refine V_irem (pc := 52) C dX9_drawn_52 (by rw [hbc]; exact nI_ne0 hb0 (by omega)) ?_
        rw [hbc, ea, pk_rem (by omega) hb0 (by omega)]
        refine Vs_istore (lv' := [(0, _), (1, _), (2, _), (3, _), (4, _), (5, _)]) (pc := 53) C dX9_drawn_53 (by decide) rfl rfl ?_
        refine V_iload_n (pc := 55) C 3 dX9_drawn_55 rfl rfl ?_
        refine V_iconst (v := 0) (pc := 56) C dX9_drawn_56 (by decide) ?_
        refine V_aload_n (pc := 57) C 0 dX9_drawn_57 rfl rfl ?_
        refine V_iload (pc := 58) C 5 dX9_drawn_58 rfl ?_
        refine V_aload_n (pc := 60) C 0 dX9_drawn_60 rfl rfl ?_
        refine get_X9_64 (pc := 61) C (wg hG (by decide) (by decide)) dX9_drawn_61 ?_
        refine get_X9_122 (pc := 64) C (wg hG (by decide) (by decide)) dX9_drawn_64 ?_
        refine V_iload (pc := 67) C 5 dX9_drawn_67 rfl ?_
        refine V_iald (pc := 69) C (a % nb) rfl (by omega) (Nat.le_of_ble_eq_true rfl) (wg hG (by decide) (by decide)) wF_28 dX9_drawn_69 ?_
        refine V_iconst (v := 0) (pc := 70) C dX9_drawn_70 (by decide) ?_
        refine call_X9_195 (pc := 71) C (c_X9_priceBy (d := d - 1) hG (by omega) (kAlone M1 t) hP2.2.2.1 hP2.2.2.2.1 hP2.2.2.2.2 (k := a % nb) (by omega) _ 0 (by decide)) (by omega) (wg hG (by decide) (by decide)) (Nat.le_of_ble_eq_true rfl) dX9_drawn_71 (fun x_71 M_71 h_71 => ?_)
        obtain ⟨⟨f_1, e_1⟩, rfl⟩ := h_71
        have hS1 : Scr M M_71 := hS2.tr (Sc.scr (e_1 ▸ Sc.env))
        clear e_1
        rw [kPrice_alone hS, show (kShow M1 (M1.1 6 t 0) (M1.1 6 t 1) (M1.1 29 0 t)).1 28 0 = M.1 28 0 from hS2.1 28 0 (by decide)]
        refine V_mmax (pc := 74) C qm_X9_240 q_maxs qn_java_lang_Math q_maxc (by omega) (Nat.le_of_ble_eq_true rfl) dX9_drawn_74 ?_
        refine V_iadd (pc := 77) C dX9_drawn_77 ?_
        refine Vs_istore_n (lv' := [(0, _), (1, _), (2, _), (3, _), (4, _), (5, _)]) (pc := 78) C dX9_drawn_78 rfl (by decide) rfl rfl ?_
        refine Vs_iinc (v := nI (t + 1)) (lv' := [(0, _), (1, _), (2, _), (3, _), (4, _), (5, _)]) (pc := 79) C 4 dX9_drawn_79 rfl (by decide) rfl (nI_i1 (t)) rfl ?_
        refine V_goto (tgt := 16) (pc := 82) C dX9_drawn_82 (by decide) ?_
        refine V_loc (lv' := [(0, _), (1, _), (2, _), (3, _), (4, _)]) [0, 1, 2, 3, 4] rfl ?_
        refine ih (t + 1) (_, _) _ (by omega) hS1 ?_
        intro M' hM'
        have := hq2 M' hM'
        rw [if_neg h_31, dStep, ea, nI_clamp (by omega)] at this
        exact this
theorem c_X9_drawn (hG : 30 ≤ G) (hd : 4 ≤ d) (M : wS) {nb nt r e1 e2 e3 : Nat} (hP : IP M nb nt r e1 e2 e3) (seed : Int32) : Ctr l D cy ad G d yX9_drawn cX9_drawn 6 (some .int) [.ref (ad 0 0), .int seed] M (rI fun x M' => Scr M M' ∧ x = if nb = 0 then -1 else (dRun M nb r e1 e2 0 nt (seed, 0)).2) := by
  obtain ⟨⟨hnb, hn7⟩, -⟩ := id hP
  refine Ctr.of (lv0 := [(0, _), (1, _)]) (by decide) (Nat.le_of_ble_eq_true rfl) rfl ?_
  intro p e s m args below meth c C hr hlk _
  have C : CX p s m args c cX9_drawn 6 "CostsAge" D cy ad G (wA ad G) (Rm d) d 0 0 := C
  refine V_aload_n (pc := 0) C 0 dX9_drawn_0 rfl rfl ?_
  refine get_X9_106 (pc := 1) C (wg hG (by decide) (by decide)) dX9_drawn_1 ?_
  refine V_if_ne (tgt := 9) (pc := 4) C dX9_drawn_4 (by decide) (fun h_4 => ?_) (fun h_4 => ?_)
  · rw [hnb] at h_4
    have hb0 : 0 < nb := Nat.pos_of_ne_zero (fun z => h_4 (by rw [z]; decide))
    refine V_iload_n (pc := 9) C 1 dX9_drawn_9 rfl rfl ?_
    refine Vs_istore_n (lv' := [(0, _), (1, _), (2, _)]) (pc := 10) C dX9_drawn_10 rfl (by decide) rfl rfl ?_
    refine V_iconst (v := 0) (pc := 11) C dX9_drawn_11 (by decide) ?_
    refine Vs_istore_n (lv' := [(0, _), (1, _), (2, _), (3, _)]) (pc := 12) C dX9_drawn_12 rfl (by decide) rfl rfl ?_
    refine V_iconst (v := 0) (pc := 13) C dX9_drawn_13 (by decide) ?_
    refine Vs_istore (lv' := [(0, _), (1, _), (2, _), (3, _), (4, _)]) (pc := 14) C dX9_drawn_14 (by decide) rfl rfl ?_
    refine lp_X9_drawn C hr hlk hG hd M hP hb0 _ _ nt 0 (seed, 0) M (by omega) Scr.rf (fun M' hS => ⟨hS, ?_⟩)
    rw [if_neg (by omega)]
  · refine V_iconst (v := -1) (pc := 7) C dX9_drawn_7 (by decide) ?_
    refine V_iret (pc := 8) C hr hlk dX9_drawn_8 ⟨_, rfl, ?_⟩
    rw [hnb] at h_4
    have hb0 : nb = 0 := (nI_eq (by omega) (by decide)).mp (h_4.trans (by decide : (0 : Int32) = nI 0))
    exact ⟨Scr.rf, by rw [if_pos hb0]⟩
end S21
