section S62
variable {l : Launch} {D : va_G} {cy : Nat → ClassId} {ad : Nat → Nat → Nat} {G d : Nat}
theorem lp_X10_gain {p : Program} {e : Env} {s : State} {m : MethodId} {args : Array Value} {below : List Frame} {meth : Method} {c : Code} (C : CX p s m args c cX10_gain 8 "CostsAgeModel" D cy ad G (wA ad G) (Rm d) d 0 0) (hr : meth.sig.returnType = (some .long)) (hlk : meth.locks = false) (hG : 56 ≤ G) (hd : 44 ≤ d) {M0 Ms : wS} {nb nt r e1 e2 e3 t : Nat} (hC : rC M0 Ms nb nt r e1 e2 e3) (ht : t < nt) (what : Int32) (Qf : Int64 → wS → Prop) : ∀ (n b : Nat) (M : wS) (q : Int32 × Int32), b + n = nb → frK 36 Ms M → (q.1 = -1 ∨ ∃ j, j < 200 ∧ q.1 = nI j) → (∀ M' q', frK 36 Ms M' → q' = gRun (kCostN (kAlone M0 t) r e1 e2) (kGainN (kAlone M0 t) r e1 e2 e3) b n q → (q'.1 = -1 ∨ ∃ j, j < 200 ∧ q'.1 = nI j) → V p l e (Rm d) s m args below meth c 8 D cy ad G (wA ad G) 0 0 (MQ below (wQ D cy ad G (rL Qf)) args s 0 0 (wA ad G)) 126 [(0, .ref (ad 30 0)), (1, .int (nI t)), (2, .int what), (3, .int q'.1), (4, .int q'.2), (5, .int (nI nb))] [] M') → V p l e (Rm d) s m args below meth c 8 D cy ad G (wA ad G) 0 0 (MQ below (wQ D cy ad G (rL Qf)) args s 0 0 (wA ad G)) 42 [(0, .ref (ad 30 0)), (1, .int (nI t)), (2, .int what), (3, .int q.1), (4, .int q.2), (5, .int (nI b))] [] M := by
  have hn7 := hC.1.1.2
  have hsh := shw_alone (M0 := M0) hC.1.2.1.2 ht
  have hkl := hsh.kL
  have hNP := hsh.IP hC.1
  have hrr : M0.1 26 0 8 = nI r ∧ r < 6 := ⟨hC.1.2.2.1.1, hC.1.2.2.1.2.1⟩
  have e8 : (kAlone M0 t).1 8 r = M0.1 8 r := hsh.1.1 8 r (by decide) (by decide) (by decide)
  intro n
  induction n with
  | zero =>
    intro b M q hb hF hR hQ
    have hm := (hC.q (hF.q (by decide))).2.1.1.1
    obtain rfl : b = nb := by omega
    refine V_iload (pc := 42) C 5 dX10_gain_42 rfl ?_
    refine V_aload_n (pc := 44) C 0 dX10_gain_44 rfl rfl ?_
    refine get_X10_103 (pc := 45) C (wg hG (by decide) (by decide)) dX10_gain_45 ?_
    refine V_icmp_ge (tgt := 126) (pc := 48) C dX10_gain_48 (by decide) (fun h_48 => ?_) (fun h_48 => ?_)
    · exact hQ M q hF rfl hR
    · rw [hm] at h_48
      exact absurd (nI_le (Nat.le_refl _) (by omega)) h_48
  | succ n ih =>
    intro b M q hb hF hR hQ
    have hc := hC.q (hF.q (by decide))
    have hm := hc.2.1.1.1
    unfold gRun at hQ
    have hrg := kCost_range hNP.2.2.2.1 hNP.2.2.2.2 (k := b) (by omega) r e1 e2 ((kAlone M0 t).1 28 0 b) 0 (hNP.2.2.2.1 b (by omega)).2.2.2.2 (by decide)
    have hkc : kCostN (kAlone M0 t) r e1 e2 b = kCost (kAlone M0 t) r e1 e2 b ((kAlone M0 t).1 28 0 b) 0 := rfl
    refine V_iload (pc := 42) C 5 dX10_gain_42 rfl ?_
    refine V_aload_n (pc := 44) C 0 dX10_gain_44 rfl rfl ?_
    refine get_X10_103 (pc := 45) C (wg hG (by decide) (by decide)) dX10_gain_45 ?_
    refine V_icmp_ge (tgt := 126) (pc := 48) C dX10_gain_48 (by decide) (fun h_48 => ?_) (fun h_48 => ?_)
    · rw [hm] at h_48
      exact absurd h_48 (nI_ge (by omega) (by omega))
    · refine V_aload_n (pc := 51) C 0 dX10_gain_51 rfl rfl ?_
      refine V_iload (pc := 52) C 5 dX10_gain_52 rfl ?_
      refine V_iconst (v := 1) (pc := 54) C dX10_gain_54 (by decide) ?_
      refine V_iload_n (pc := 55) C 1 dX10_gain_55 rfl rfl ?_
      refine V_ishl (pc := 56) C dX10_gain_56 ?_
      refine V_iconst (v := 0) (pc := 57) C dX10_gain_57 (by decide) ?_
      refine call_X10_297 (pc := 58) C (r_costOf (d := d - 1) hG (by omega) hc hsh (k := b) (by omega) (by decide)) (by omega) (wg hG (by decide) (by decide)) (Nat.le_of_ble_eq_true rfl) dX10_gain_58 (fun x_58 M_58 h_58 => ?_)
      obtain ⟨f1, f2⟩ := h_58
      rw [← hkl, ← hkc] at f2
      rw [← hkc] at hrg
      have hF1 := hF.tr f1
      refine Vs_istore (lv' := [(0, _), (1, _), (2, _), (3, _), (4, _), (5, _), (6, _)]) (pc := 61) C dX10_gain_61 (by decide) rfl rfl ?_
      refine V_iload (pc := 63) C 6 dX10_gain_63 rfl ?_
      refine V_bipush (v := -5) (pc := 65) C dX10_gain_65 (by decide) ?_
      refine V_icmp_eq (tgt := 120) (pc := 67) C dX10_gain_67 (by decide) (fun h_67 => ?_) (fun h_67 => ?_)
      · have hcn : ¬ 0 ≤ kCostN (kAlone M0 t) r e1 e2 b := by rw [← f2, h_67]; decide
        rw [show gStep b (kCostN (kAlone M0 t) r e1 e2 b) (kGainN (kAlone M0 t) r e1 e2 e3 b) q = q by rw [gStep, if_neg hcn]] at hQ
        refine Vs_iinc (v := nI (b + 1)) (lv' := [(0, _), (1, _), (2, _), (3, _), (4, _), (5, _), (6, _)]) (pc := 120) C 5 dX10_gain_120 rfl (by decide) rfl (nI_i1 (b)) rfl ?_
        refine V_goto (tgt := 42) (pc := 123) C dX10_gain_123 (by decide) ?_
        refine V_loc (lv' := [(0, _), (1, _), (2, _), (3, _), (4, _), (5, _)]) [0, 1, 2, 3, 4, 5] rfl ?_
        exact ih (b + 1) _ q (by omega) hF1 hR hQ
      · have hcn : 0 ≤ kCostN (kAlone M0 t) r e1 e2 b := (hrg.resolve_left (fun e => h_67 (f2.trans e))).1
        refine V_aload_n (pc := 70) C 0 dX10_gain_70 rfl rfl ?_
        refine V_iload (pc := 71) C 5 dX10_gain_71 rfl ?_
        refine V_iconst (v := 1) (pc := 73) C dX10_gain_73 (by decide) ?_
        refine V_iload_n (pc := 74) C 1 dX10_gain_74 rfl rfl ?_
        refine V_ishl (pc := 75) C dX10_gain_75 ?_
        refine V_iconst (v := 0) (pc := 76) C dX10_gain_76 (by decide) ?_
        refine call_X10_278 (pc := 77) C (r_about (d := d - 1) hG (by omega) (hC.q (hF1.q (by decide))) hsh (k := b) (by omega) (by decide)) (by omega) (wg hG (by decide) (by decide)) (Nat.le_of_ble_eq_true rfl) dX10_gain_77 (fun M_77 h_77 => ?_)
        obtain ⟨g1, g2⟩ := h_77
        have hF2 := hF1.tr g1
        have hc2 := hC.q (hF2.q (by decide))
        have hru : M_77.1 30 0 4 = nI r := (hc2.2.1.2.1.2.2.2).trans hrr.1
        obtain ⟨z, f, t1, t2, t3, t4, t5⟩ := hc2.2.2
        have hv := (cOf_val t2 t5 (kEnv (kAlone M0 t) b (M0.1 28 0 b) 0)).2.2.1
        refine V_aload_n (pc := 80) C 0 dX10_gain_80 rfl rfl ?_
        refine V_aload_n (pc := 81) C 0 dX10_gain_81 rfl rfl ?_
        refine get_X10_270 (pc := 82) C (wg hG (by decide) (by decide)) dX10_gain_82 ?_
        refine V_iconst (v := 2) (pc := 85) C dX10_gain_85 (by decide) ?_
        rw [hru]
        refine call_X10_266 (pc := 86) C (c_X10_read (d := d - 1) hG (by omega) hrr.2 M_77 t1 t2 t3 t4 g2 2) (by omega) (wg hG (by decide) (by decide)) (Nat.le_of_ble_eq_true rfl) dX10_gain_86 (fun x_86 M_86 h_86 => ?_)
        obtain ⟨k1, k2⟩ := h_86
        have k3 := k2.2.2 t5.1
        rw [if_neg (by decide), if_neg (by decide), ← hv] at k3
        have hF3 := hF2.tr k1.k
        clear t5 hv k2
        subst k3
        refine V_iconst (v := 0) (pc := 89) C dX10_gain_89 (by decide) ?_
        refine V_sipush (v := 999) (pc := 90) C dX10_gain_90 (by decide) ?_
        refine call_X10_282 (pc := 93) C (c_X10_within (d := d - 1) _ _ 0 999) (by omega) (Nat.le_of_ble_eq_true rfl) dX10_gain_93 (fun x_93 M_93 h_93 => ?_)
        obtain ⟨e_93, rfl⟩ := h_93
        have e_93 := e_93.symm
        subst e_93
        refine V_iload (pc := 96) C 6 dX10_gain_96 rfl ?_
        refine V_isub (pc := 98) C dX10_gain_98 ?_
        have hg : (if xVal (kEnv (kAlone M0 t) b (M0.1 28 0 b) 0) (M0.1 8 r) e2 (e3 - e2) < 0 then 0 else if 999 < xVal (kEnv (kAlone M0 t) b (M0.1 28 0 b) 0) (M0.1 8 r) e2 (e3 - e2) then 999 else xVal (kEnv (kAlone M0 t) b (M0.1 28 0 b) 0) (M0.1 8 r) e2 (e3 - e2)) - x_58 = kGainN (kAlone M0 t) r e1 e2 e3 b := by
          rw [kGainN, ← hkc, hkl, e8, f2]
          rfl
        rw [hg]
        refine Vs_istore (lv' := [(0, _), (1, _), (2, _), (3, _), (4, _), (5, _), (6, _), (7, _)]) (pc := 99) C dX10_gain_99 (by decide) rfl rfl ?_
        refine V_iload_n (pc := 101) C 3 dX10_gain_101 rfl rfl ?_
        refine V_iconst (v := -1) (pc := 102) C dX10_gain_102 (by decide) ?_
        refine V_icmp_eq (tgt := 113) (pc := 103) C dX10_gain_103 (by decide) (fun h_103 => ?_) (fun h_103 => ?_)
        · rw [show gStep b (kCostN (kAlone M0 t) r e1 e2 b) (kGainN (kAlone M0 t) r e1 e2 e3 b) q = (nI b, kGainN (kAlone M0 t) r e1 e2 e3 b) by rw [gStep, if_pos hcn, if_pos (by rw [h_103]; decide)]] at hQ
          refine V_iload (pc := 113) C 5 dX10_gain_113 rfl ?_
          refine Vs_istore_n (lv' := [(0, _), (1, _), (2, _), (3, _), (4, _), (5, _), (6, _), (7, _)]) (pc := 115) C dX10_gain_115 rfl (by decide) rfl rfl ?_
          refine V_iload (pc := 116) C 7 dX10_gain_116 rfl ?_
          refine Vs_istore (lv' := [(0, _), (1, _), (2, _), (3, _), (4, _), (5, _), (6, _), (7, _)]) (pc := 118) C dX10_gain_118 (by decide) rfl rfl ?_
          refine Vs_iinc (v := nI (b + 1)) (lv' := [(0, _), (1, _), (2, _), (3, _), (4, _), (5, _), (6, _), (7, _)]) (pc := 120) C 5 dX10_gain_120 rfl (by decide) rfl (nI_i1 (b)) rfl ?_
          refine V_goto (tgt := 42) (pc := 123) C dX10_gain_123 (by decide) ?_
          refine V_loc (lv' := [(0, _), (1, _), (2, _), (3, _), (4, _), (5, _)]) [0, 1, 2, 3, 4, 5] rfl ?_
          exact ih (b + 1) _ (nI b, kGainN (kAlone M0 t) r e1 e2 e3 b) (by omega) hF3 (Or.inr ⟨b, by omega, rfl⟩) hQ
        · have hq0 : ¬ q.1 < 0 := by
            obtain ⟨j, j1, j2⟩ := hR.resolve_left h_103
            rw [j2]
            exact nI_pos (by omega)
          refine V_iload (pc := 106) C 7 dX10_gain_106 rfl ?_
          refine V_iload (pc := 108) C 4 dX10_gain_108 rfl ?_
          refine V_icmp_le (tgt := 120) (pc := 110) C dX10_gain_110 (by decide) (fun h_110 => ?_) (fun h_110 => ?_)
          · rw [show gStep b (kCostN (kAlone M0 t) r e1 e2 b) (kGainN (kAlone M0 t) r e1 e2 e3 b) q = q by rw [gStep, if_pos hcn, if_neg hq0, if_pos h_110]] at hQ
            refine Vs_iinc (v := nI (b + 1)) (lv' := [(0, _), (1, _), (2, _), (3, _), (4, _), (5, _), (6, _), (7, _)]) (pc := 120) C 5 dX10_gain_120 rfl (by decide) rfl (nI_i1 (b)) rfl ?_
            refine V_goto (tgt := 42) (pc := 123) C dX10_gain_123 (by decide) ?_
            refine V_loc (lv' := [(0, _), (1, _), (2, _), (3, _), (4, _), (5, _)]) [0, 1, 2, 3, 4, 5] rfl ?_
            exact ih (b + 1) _ q (by omega) hF3 hR hQ
          · rw [show gStep b (kCostN (kAlone M0 t) r e1 e2 b) (kGainN (kAlone M0 t) r e1 e2 e3 b) q = (nI b, kGainN (kAlone M0 t) r e1 e2 e3 b) by rw [gStep, if_pos hcn, if_neg hq0, if_neg h_110]] at hQ
            refine V_iload (pc := 113) C 5 dX10_gain_113 rfl ?_
            refine Vs_istore_n (lv' := [(0, _), (1, _), (2, _), (3, _), (4, _), (5, _), (6, _), (7, _)]) (pc := 115) C dX10_gain_115 rfl (by decide) rfl rfl ?_
            refine V_iload (pc := 116) C 7 dX10_gain_116 rfl ?_
            refine Vs_istore (lv' := [(0, _), (1, _), (2, _), (3, _), (4, _), (5, _), (6, _), (7, _)]) (pc := 118) C dX10_gain_118 (by decide) rfl rfl ?_
            refine Vs_iinc (v := nI (b + 1)) (lv' := [(0, _), (1, _), (2, _), (3, _), (4, _), (5, _), (6, _), (7, _)]) (pc := 120) C 5 dX10_gain_120 rfl (by decide) rfl (nI_i1 (b)) rfl ?_
            refine V_goto (tgt := 42) (pc := 123) C dX10_gain_123 (by decide) ?_
            refine V_loc (lv' := [(0, _), (1, _), (2, _), (3, _), (4, _), (5, _)]) [0, 1, 2, 3, 4, 5] rfl ?_
            exact ih (b + 1) _ (nI b, kGainN (kAlone M0 t) r e1 e2 e3 b) (by omega) hF3 (Or.inr ⟨b, by omega, rfl⟩) hQ
theorem r_gain (hG : 56 ≤ G) (hd : 45 ≤ d) {M0 M : wS} {nb nt r e1 e2 e3 : Nat} (hC : rC M0 M nb nt r e1 e2 e3) (th what : Int32) : Ctr l D cy ad G d yX10_gain cX10_gain 8 (some .long) [.ref (ad 30 0), .int th, .int what] M (rL fun x M' => qF M M' ∧ ((0 ≤ th ∧ th < nI nt) ∧ (0 ≤ what ∧ what ≤ 1) ∧ ¬ hasB (M0.1 26 0 3) th.toNatClampNeg → x = if 0 ≤ (kGain M0 nb r e1 e2 e3 th.toNatClampNeg).1 then (if what = 0 then (kGain M0 nb r e1 e2 e3 th.toNatClampNeg).2.toInt64 else (kGain M0 nb r e1 e2 e3 th.toNatClampNeg).1.toInt64) else -4611686018427387904) ∧ (¬ ((0 ≤ th ∧ th < nI nt) ∧ (0 ≤ what ∧ what ≤ 1) ∧ ¬ hasB (M0.1 26 0 3) th.toNatClampNeg) → x = -4611686018427387904)) := by
  have hn7 := hC.1.2.1.2
  refine Ctr.of (lv0 := [(0, _), (1, _), (2, _)]) (by decide) (Nat.le_of_ble_eq_true rfl) rfl ?_
  intro p e s m args below meth c C hr hlk _
  have C : CX p s m args c cX10_gain 8 "CostsAgeModel" D cy ad G (wA ad G) (Rm d) d 0 0 := C
  refine V_aload_n (pc := 0) C 0 dX10_gain_0 rfl rfl ?_
  refine V_iload_n (pc := 1) C 1 dX10_gain_1 rfl rfl ?_
  refine call_X10_128 (pc := 2) C (c_X10_isThing (d := d - 1) hG (by omega) M hC.2.1.1.2 hn7 th) (by omega) (wg hG (by decide) (by decide)) (Nat.le_of_ble_eq_true rfl) dX10_gain_2 (fun x_2 M_2 h_2 => ?_)
  obtain ⟨e_2, rfl⟩ := h_2
  have e_2 := e_2.symm
  subst e_2
  refine V_if_eq (tgt := 30) (pc := 5) C dX10_gain_5 (by decide) (fun h_5 => ?_) (fun h_5 => ?_)
  · have h_5 := bJ_0.mp h_5
    refine V_ldc2 (pc := 30) C dX10_gain_30 qk_X10_321 ?_
    refine V_lret (pc := 33) C hr hlk dX10_gain_33 ⟨_, rfl, ?_⟩
    first | exact ⟨qF.rf, fun e => absurd e.1 h_5, fun _ => rfl⟩ | exact ⟨qF.rf, fun e => absurd e.2.1 h_15, fun _ => rfl⟩ | exact ⟨qF.rf, fun e => absurd h_27 e.2.2, fun _ => rfl⟩
  · have h_5 := bJ_1.mp h_5
    obtain ⟨t, ht, rfl⟩ := ix_of h_5.1 h_5.2 (by omega)
    rw [nI_clamp (by omega)]
    refine V_iload_n (pc := 8) C 2 dX10_gain_8 rfl rfl ?_
    refine V_i2l (pc := 9) C dX10_gain_9 ?_
    refine V_lconst (v := 0) (pc := 10) C dX10_gain_10 (by decide) ?_
    refine V_lconst (v := 1) (pc := 11) C dX10_gain_11 (by decide) ?_
    refine call_X10_106 (pc := 12) C (c_in (d := d - 1) M what 0 1 (by decide) (by decide)) (by omega) (Nat.le_of_ble_eq_true rfl) dX10_gain_12 (fun x_12 M_12 h_12 => ?_)
    obtain ⟨e_12, rfl⟩ := h_12
    have e_12 := e_12.symm
    subst e_12
    refine V_if_eq (tgt := 30) (pc := 15) C dX10_gain_15 (by decide) (fun h_15 => ?_) (fun h_15 => ?_)
    · have h_15 := bJ_0.mp h_15
      refine V_ldc2 (pc := 30) C dX10_gain_30 qk_X10_321 ?_
      refine V_lret (pc := 33) C hr hlk dX10_gain_33 ⟨_, rfl, ?_⟩
      first | exact ⟨qF.rf, fun e => absurd e.1 h_5, fun _ => rfl⟩ | exact ⟨qF.rf, fun e => absurd e.2.1 h_15, fun _ => rfl⟩ | exact ⟨qF.rf, fun e => absurd h_27 e.2.2, fun _ => rfl⟩
    · have h_15 := bJ_1.mp h_15
      refine V_aload_n (pc := 18) C 0 dX10_gain_18 rfl rfl ?_
      refine get_X10_113 (pc := 19) C (wg hG (by decide) (by decide)) dX10_gain_19 ?_
      refine V_iload_n (pc := 22) C 1 dX10_gain_22 rfl rfl ?_
      refine V_ishr (pc := 23) C dX10_gain_23 ?_
      refine V_iconst (v := 1) (pc := 24) C dX10_gain_24 (by decide) ?_
      refine V_iand (pc := 25) C dX10_gain_25 ?_
      refine V_iconst (v := 1) (pc := 26) C dX10_gain_26 (by decide) ?_
      rw [hC.2.1.2.1.1]
      refine V_icmp_ne (tgt := 34) (pc := 27) C dX10_gain_27 (by decide) (fun h_27 => ?_) (fun h_27 => ?_)
      · rw [hasB_1] at h_27
        refine V_iconst (v := -1) (pc := 34) C dX10_gain_34 (by decide) ?_
        refine Vs_istore_n (lv' := [(0, _), (1, _), (2, _), (3, _)]) (pc := 35) C dX10_gain_35 rfl (by decide) rfl rfl ?_
        refine V_iconst (v := 0) (pc := 36) C dX10_gain_36 (by decide) ?_
        refine Vs_istore (lv' := [(0, _), (1, _), (2, _), (3, _), (4, _)]) (pc := 37) C dX10_gain_37 (by decide) rfl rfl ?_
        refine V_iconst (v := 0) (pc := 39) C dX10_gain_39 (by decide) ?_
        refine Vs_istore (lv' := [(0, _), (1, _), (2, _), (3, _), (4, _), (5, _)]) (pc := 40) C dX10_gain_40 (by decide) rfl rfl ?_
        refine lp_X10_gain C hr hlk hG (by omega) hC ht what _ nb 0 M (-1, 0) (by omega) frK.rf (Or.inl rfl) (fun M' q hF hq hR => ?_)
        have hq2 : kGain M0 nb r e1 e2 e3 t = q := hq.symm
        clear hq
        rw [hq2]
        refine V_iload_n (pc := 126) C 3 dX10_gain_126 rfl rfl ?_
        refine V_iconst (v := -1) (pc := 127) C dX10_gain_127 (by decide) ?_
        refine V_icmp_ne (tgt := 137) (pc := 128) C dX10_gain_128 (by decide) (fun h_128 => ?_) (fun h_128 => ?_)
        · have hq0 : 0 ≤ q.1 := by
            obtain ⟨j, j1, j2⟩ := hR.resolve_left h_128
            rw [j2]
            exact nI_pos' (by omega)
          rw [if_pos hq0]
          refine V_iload_n (pc := 137) C 2 dX10_gain_137 rfl rfl ?_
          refine V_if_ne (tgt := 147) (pc := 138) C dX10_gain_138 (by decide) (fun h_138 => ?_) (fun h_138 => ?_)
          · refine V_iload_n (pc := 147) C 3 dX10_gain_147 rfl rfl ?_
            refine V_i2l (pc := 148) C dX10_gain_148 ?_
            refine V_lret (pc := 149) C hr hlk dX10_gain_149 ⟨_, rfl, ?_⟩
            exact ⟨hF.q (by decide), fun _ => by rw [if_neg h_138], fun e => absurd ⟨h_5, h_15, h_27⟩ e⟩
          · refine V_iload (pc := 141) C 4 dX10_gain_141 rfl ?_
            refine V_i2l (pc := 143) C dX10_gain_143 ?_
            refine V_goto (tgt := 149) (pc := 144) C dX10_gain_144 (by decide) ?_
            refine V_lret (pc := 149) C hr hlk dX10_gain_149 ⟨_, rfl, ?_⟩
            exact ⟨hF.q (by decide), fun _ => by rw [if_pos h_138], fun e => absurd ⟨h_5, h_15, h_27⟩ e⟩
        · rw [if_neg (by rw [h_128]; decide)]
          refine V_ldc2 (pc := 131) C dX10_gain_131 qk_X10_321 ?_
          refine V_goto (tgt := 149) (pc := 134) C dX10_gain_134 (by decide) ?_
          refine V_lret (pc := 149) C hr hlk dX10_gain_149 ⟨_, rfl, ?_⟩
          exact ⟨hF.q (by decide), fun _ => rfl, fun _ => rfl⟩
      · rw [hasB_1] at h_27
        refine V_ldc2 (pc := 30) C dX10_gain_30 qk_X10_321 ?_
        refine V_lret (pc := 33) C hr hlk dX10_gain_33 ⟨_, rfl, ?_⟩
        first | exact ⟨qF.rf, fun e => absurd e.1 h_5, fun _ => rfl⟩ | exact ⟨qF.rf, fun e => absurd e.2.1 h_15, fun _ => rfl⟩ | exact ⟨qF.rf, fun e => absurd h_27 e.2.2, fun _ => rfl⟩
theorem lp_X10_drawn {p : Program} {e : Env} {s : State} {m : MethodId} {args : Array Value} {below : List Frame} {meth : Method} {c : Code} (C : CX p s m args c cX10_drawn 6 "CostsAgeModel" D cy ad G (wA ad G) (Rm d) d 0 0) (hr : meth.sig.returnType = (some .int)) (hlk : meth.locks = false) (hG : 56 ≤ G) (hd : 43 ≤ d) {M0 Ms : wS} {nb nt r e1 e2 e3 : Nat} (hC : rC M0 Ms nb nt r e1 e2 e3) (hb0 : 0 < nb) (seed : Int32) (Qf : Int32 → wS → Prop) : ∀ (n t : Nat) (q : Int32 × Int32) (M : wS), t + n = nt → frK 36 Ms M → (∀ M', frK 36 Ms M' → Qf (dRun M0 nb r e1 e2 t n q).2 M') → V p l e (Rm d) s m args below meth c 6 D cy ad G (wA ad G) 0 0 (MQ below (wQ D cy ad G (rI Qf)) args s 0 0 (wA ad G)) 16 [(0, .ref (ad 30 0)), (1, .int seed), (2, .int q.1), (3, .int q.2), (4, .int (nI t))] [] M := by
  have hn7 := hC.1.2.1.2
  have hb7 := hC.1.1.2
  intro n
  induction n with
  | zero =>
    intro t q M ht hF hQ
    have hm := (hC.q (hF.q (by decide))).2.1.1.2
    obtain rfl : t = nt := by omega
    refine V_iload (pc := 16) C 4 dX10_drawn_16 rfl ?_
    refine V_aload_n (pc := 18) C 0 dX10_drawn_18 rfl rfl ?_
    refine get_X10_110 (pc := 19) C (wg hG (by decide) (by decide)) dX10_drawn_19 ?_
    refine V_icmp_ge (tgt := 89) (pc := 22) C dX10_drawn_22 (by decide) (fun h_22 => ?_) (fun h_22 => ?_)
    · refine V_iload_n (pc := 89) C 3 dX10_drawn_89 rfl rfl ?_
      refine V_iret (pc := 90) C hr hlk dX10_drawn_90 ⟨_, rfl, ?_⟩
      exact hQ M hF
    · rw [hm] at h_22
      exact absurd (nI_le (Nat.le_refl _) (by omega)) h_22
  | succ n ih =>
    intro t q M ht hF hQ
    have hc := hC.q (hF.q (by decide))
    have hm := hc.2.1.1.2
    have hmb := hc.2.1.1.1
    have hQ2 : ∀ M', frK 36 Ms M' → Qf (dRun M0 nb r e1 e2 (t + 1) n (@ite _ (hasB (M0.1 26 0 3) t) (Classical.propDecidable _) q (dStep M0 nb r e1 e2 t q))).2 M' := hQ
    clear hQ
    obtain ⟨a, ha, ea⟩ := ushr10 (q.1 * 1103515245 + 12345)
    have hj : a % nb < nb := Nat.mod_lt _ hb0
    have hsh := shw_alone (M0 := M0) (t := t) hn7 (by omega)
    have hNP := hsh.IP hC.1
    have hrg := kPrice_range hNP.2.2.2.1 hNP.2.2.2.2 (k := a % nb) (by omega) r e1 e2 (M0.1 28 0 (a % nb)) 0 (by decide)
    refine V_iload (pc := 16) C 4 dX10_drawn_16 rfl ?_
    refine V_aload_n (pc := 18) C 0 dX10_drawn_18 rfl rfl ?_
    refine get_X10_110 (pc := 19) C (wg hG (by decide) (by decide)) dX10_drawn_19 ?_
    refine V_icmp_ge (tgt := 89) (pc := 22) C dX10_drawn_22 (by decide) (fun h_22 => ?_) (fun h_22 => ?_)
    · rw [hm] at h_22
      exact absurd h_22 (nI_ge (by omega) (by omega))
    · refine V_aload_n (pc := 25) C 0 dX10_drawn_25 rfl rfl ?_
      refine get_X10_113 (pc := 26) C (wg hG (by decide) (by decide)) dX10_drawn_26 ?_
      refine V_iload (pc := 29) C 4 dX10_drawn_29 rfl ?_
      refine V_ishr (pc := 31) C dX10_drawn_31 ?_
      refine V_iconst (v := 1) (pc := 32) C dX10_drawn_32 (by decide) ?_
      refine V_iand (pc := 33) C dX10_drawn_33 ?_
      rw [hc.2.1.2.1.1]
      refine V_if_ne (tgt := 83) (pc := 34) C dX10_drawn_34 (by decide) (fun h_34 => ?_) (fun h_34 => ?_)
      · have hb : hasB (M0.1 26 0 3) t := h_34
        refine Vs_iinc (v := nI (t + 1)) (lv' := [(0, _), (1, _), (2, _), (3, _), (4, _)]) (pc := 83) C 4 dX10_drawn_83 rfl (by decide) rfl (nI_i1 (t)) rfl ?_
        refine V_goto (tgt := 16) (pc := 86) C dX10_drawn_86 (by decide) ?_
        exact ih (t + 1) q M (by omega) hF (fun M' h => by have := hQ2 M' h; rw [if_pos hb] at this; exact this)
      · have hb : ¬ hasB (M0.1 26 0 3) t := fun e => e h_34
        refine V_iload_n (pc := 37) C 2 dX10_drawn_37 rfl rfl ?_
        refine V_ldcw (pc := 38) C dX10_drawn_38 qk_X10_329 ?_
        refine V_imul (pc := 41) C dX10_drawn_41 ?_
        refine V_sipush (v := 12345) (pc := 42) C dX10_drawn_42 (by decide) ?_
        refine V_iadd (pc := 45) C dX10_drawn_45 ?_
        refine Vs_istore_n (lv' := [(0, _), (1, _), (2, _), (3, _), (4, _)]) (pc := 46) C dX10_drawn_46 rfl (by decide) rfl rfl ?_
        refine V_aload_n (pc := 47) C 0 dX10_drawn_47 rfl rfl ?_
        refine V_iload_n (pc := 48) C 2 dX10_drawn_48 rfl rfl ?_
        refine V_bipush (v := 10) (pc := 49) C dX10_drawn_49 (by decide) ?_
        refine V_iushr (pc := 51) C dX10_drawn_51 ?_
        refine V_aload_n (pc := 52) C 0 dX10_drawn_52 rfl rfl ?_
        refine get_X10_103 (pc := 53) C (wg hG (by decide) (by decide)) dX10_drawn_53 ?_
        refine V_irem (pc := 56) C dX10_drawn_56 (by rw [hmb]; exact nI_ne0 hb0 (by omega)) ?_
        rw [hmb, ea, pk_rem (by omega) hb0 (by omega)]
        refine V_iconst (v := 1) (pc := 57) C dX10_drawn_57 (by decide) ?_
        refine V_iload (pc := 58) C 4 dX10_drawn_58 rfl ?_
        refine V_ishl (pc := 60) C dX10_drawn_60 ?_
        refine V_iconst (v := 0) (pc := 61) C dX10_drawn_61 (by decide) ?_
        refine call_X10_285 (pc := 62) C (r_taking (d := d - 1) hG (by omega) hc hsh (k := a % nb) (by omega) (by decide)) (by omega) (wg hG (by decide) (by decide)) (Nat.le_of_ble_eq_true rfl) dX10_drawn_62 (fun x_62 M_62 h_62 => ?_)
        obtain ⟨f1, f2, f3⟩ := h_62
        rw [← f3] at hrg
        have hd3 : dStep M0 nb r e1 e2 t q = (q.1 * 1103515245 + 12345, q.2 + (if 0 < x_62 then x_62 else 0)) := by rw [dStep, ea, nI_clamp (by omega), f3]
        clear f3
        have hF2 := hF.tr f1
        refine Vs_istore (lv' := [(0, _), (1, _), (2, _), (3, _), (4, _), (5, _)]) (pc := 65) C dX10_drawn_65 (by decide) rfl rfl ?_
        refine V_iload_n (pc := 67) C 3 dX10_drawn_67 rfl rfl ?_
        refine V_iload (pc := 68) C 5 dX10_drawn_68 rfl ?_
        refine V_bipush (v := -5) (pc := 70) C dX10_drawn_70 (by decide) ?_
        refine V_icmp_ne (tgt := 79) (pc := 72) C dX10_drawn_72 (by decide) (fun h_72 => ?_) (fun h_72 => ?_)
        · have hv : (if 0 < x_62 then x_62 else 0) = x_62 := by
            by_cases z : 0 < x_62
            · rw [if_pos z]
            · rw [if_neg z]
              exact (Int32.le_antisymm (Int32.not_lt.mp z) (hrg.resolve_left h_72).1).symm
          rw [hv] at hd3
          refine V_iload (pc := 79) C 5 dX10_drawn_79 rfl ?_
          refine V_iadd (pc := 81) C dX10_drawn_81 ?_
          refine Vs_istore_n (lv' := [(0, _), (1, _), (2, _), (3, _), (4, _), (5, _)]) (pc := 82) C dX10_drawn_82 rfl (by decide) rfl rfl ?_
          refine Vs_iinc (v := nI (t + 1)) (lv' := [(0, _), (1, _), (2, _), (3, _), (4, _), (5, _)]) (pc := 83) C 4 dX10_drawn_83 rfl (by decide) rfl (nI_i1 (t)) rfl ?_
          refine V_goto (tgt := 16) (pc := 86) C dX10_drawn_86 (by decide) ?_
          refine V_loc (lv' := [(0, _), (1, _), (2, _), (3, _), (4, _)]) [0, 1, 2, 3, 4] rfl ?_
          exact ih (t + 1) (_, _) _ (by omega) hF2 (fun M' h => by have := hQ2 M' h; rw [if_neg hb, hd3] at this; exact this)
        · rw [if_neg (by rw [h_72]; decide)] at hd3
          refine V_iconst (v := 0) (pc := 75) C dX10_drawn_75 (by decide) ?_
          refine V_goto (tgt := 81) (pc := 76) C dX10_drawn_76 (by decide) ?_
          refine V_iadd (pc := 81) C dX10_drawn_81 ?_
          refine Vs_istore_n (lv' := [(0, _), (1, _), (2, _), (3, _), (4, _), (5, _)]) (pc := 82) C dX10_drawn_82 rfl (by decide) rfl rfl ?_
          refine Vs_iinc (v := nI (t + 1)) (lv' := [(0, _), (1, _), (2, _), (3, _), (4, _), (5, _)]) (pc := 83) C 4 dX10_drawn_83 rfl (by decide) rfl (nI_i1 (t)) rfl ?_
          refine V_goto (tgt := 16) (pc := 86) C dX10_drawn_86 (by decide) ?_
          refine V_loc (lv' := [(0, _), (1, _), (2, _), (3, _), (4, _)]) [0, 1, 2, 3, 4] rfl ?_
          exact ih (t + 1) (_, _) _ (by omega) hF2 (fun M' h => by have := hQ2 M' h; rw [if_neg hb, hd3] at this; exact this)
theorem r_drawn (hG : 56 ≤ G) (hd : 43 ≤ d) {M0 M : wS} {nb nt r e1 e2 e3 : Nat} (hC : rC M0 M nb nt r e1 e2 e3) (seed : Int32) : Ctr l D cy ad G d yX10_drawn cX10_drawn 6 (some .int) [.ref (ad 30 0), .int seed] M (rI fun x M' => qF M M' ∧ x = if nb = 0 then -1 else (dRun M0 nb r e1 e2 0 nt (seed, 0)).2) := by
  have hnb := hC.2.1.1.1
  have hn7 := hC.1.1.2
  refine Ctr.of (lv0 := [(0, _), (1, _)]) (by decide) (Nat.le_of_ble_eq_true rfl) rfl ?_
  intro p e s m args below meth c C hr hlk _
  have C : CX p s m args c cX10_drawn 6 "CostsAgeModel" D cy ad G (wA ad G) (Rm d) d 0 0 := C
  refine V_aload_n (pc := 0) C 0 dX10_drawn_0 rfl rfl ?_
  refine get_X10_103 (pc := 1) C (wg hG (by decide) (by decide)) dX10_drawn_1 ?_
  refine V_if_ne (tgt := 9) (pc := 4) C dX10_drawn_4 (by decide) (fun h_4 => ?_) (fun h_4 => ?_)
  · rw [hnb] at h_4
    have hb0 : 0 < nb := Nat.pos_of_ne_zero (fun z => h_4 (by rw [z]; decide))
    refine V_iload_n (pc := 9) C 1 dX10_drawn_9 rfl rfl ?_
    refine Vs_istore_n (lv' := [(0, _), (1, _), (2, _)]) (pc := 10) C dX10_drawn_10 rfl (by decide) rfl rfl ?_
    refine V_iconst (v := 0) (pc := 11) C dX10_drawn_11 (by decide) ?_
    refine Vs_istore_n (lv' := [(0, _), (1, _), (2, _), (3, _)]) (pc := 12) C dX10_drawn_12 rfl (by decide) rfl rfl ?_
    refine V_iconst (v := 0) (pc := 13) C dX10_drawn_13 (by decide) ?_
    refine Vs_istore (lv' := [(0, _), (1, _), (2, _), (3, _), (4, _)]) (pc := 14) C dX10_drawn_14 (by decide) rfl rfl ?_
    refine lp_X10_drawn C hr hlk hG hd hC hb0 _ _ nt 0 (seed, 0) M (by omega) frK.rf (fun M' hS => ⟨hS.q (by decide), ?_⟩)
    rw [if_neg (by omega)]
  · refine V_iconst (v := -1) (pc := 7) C dX10_drawn_7 (by decide) ?_
    refine V_iret (pc := 8) C hr hlk dX10_drawn_8 ⟨_, rfl, ?_⟩
    rw [hnb] at h_4
    have hb0 : nb = 0 := (nI_eq (by omega) (by decide)).mp (h_4.trans (by decide : (0 : Int32) = nI 0))
    exact ⟨qF.rf, by rw [if_pos hb0]⟩
/-- sheets -/
def rS1 (M0 M : wS) (k : Nat) : Prop := ∃ n, n ≤ 40 ∧ M0.1 9 k 2 = nI n ∧ M.1 52 0 k = bI (¬ M0.1 9 k 1 = -1) ∧ (¬ M0.1 9 k 1 = -1 → (0 ≤ M0.1 9 k 1 ∧ M0.1 9 k 1 ≤ 2) ∧ M.1 53 0 k = M0.1 9 k 1 ∧ M.1 54 0 k = nI n ∧ ∀ j, j < n → M.1 55 0 (40 * k + j) = M0.1 10 k j)
theorem rS1.q {M0 M M' : wS} {k : Nat} (h : qF M M') (hS : rS1 M0 M k) : rS1 M0 M' k := by
  obtain ⟨n, h1, h2, h3, h4⟩ := hS
  refine ⟨n, h1, h2, ?_, fun e => ?_⟩
  · rw [h.1 52 0 (by decide) (by decide)]; exact h3
  · rw [h.1 53 0 (by decide) (by decide), h.1 54 0 (by decide) (by decide), h.1 55 0 (by decide) (by decide)]
    exact h4 e
theorem c_X10_isSheet (hG : 56 ≤ G) (hd : 1 ≤ d) (M : wS) (v : Int32) : Ctr l D cy ad G d yX10_isSheet cX10_isSheet 1 (some .boolean) [.int v] M (rI fun x M' => M' = M ∧ x = bI (0 ≤ v ∧ v < 4)) := by
  have key : (0 ≤ v ∧ v ≤ 3) ↔ (0 ≤ v ∧ v < 4) := by
    constructor
    · rintro ⟨a, b⟩
      exact ⟨a, by (simp only [i32_eq, Int32.le_iff_toInt_le, Int32.lt_iff_toInt_lt, Int32.not_le, Int32.not_lt, Int32.toInt_add, Int32.toInt_sub, Int32.toInt_mul, Int32.toInt_neg, Int32.toInt_div, tdv2, tdv4, tdv10, tdv52, tdv100, nI_T, apply_ite Int32.toInt, Int.bmod, Int32.reduceToInt] at *; omega)⟩
    · rintro ⟨a, b⟩
      exact ⟨a, by (simp only [i32_eq, Int32.le_iff_toInt_le, Int32.lt_iff_toInt_lt, Int32.not_le, Int32.not_lt, Int32.toInt_add, Int32.toInt_sub, Int32.toInt_mul, Int32.toInt_neg, Int32.toInt_div, tdv2, tdv4, tdv10, tdv52, tdv100, nI_T, apply_ite Int32.toInt, Int.bmod, Int32.reduceToInt] at *; omega)⟩
  refine Ctr.of (lv0 := [(0, _)]) (by decide) (Nat.le_of_ble_eq_true rfl) rfl ?_
  intro p e s m args below meth c C hr hlk _
  have C : CX p s m args c cX10_isSheet 1 "CostsAgeModel" D cy ad G (wA ad G) (Rm d) d 0 0 := C
  refine V_iload_n (pc := 0) C 0 dX10_isSheet_0 rfl rfl ?_
  refine V_i2l (pc := 1) C dX10_isSheet_1 ?_
  refine V_lconst (v := 0) (pc := 2) C dX10_isSheet_2 (by decide) ?_
  refine V_ldc2 (pc := 3) C dX10_isSheet_3 qk_X10_351 ?_
  refine call_X10_106 (pc := 6) C (c_in (d := d - 1) M v 0 3 (by decide) (by decide)) (by omega) (Nat.le_of_ble_eq_true rfl) dX10_isSheet_6 (fun x_6 M_6 h_6 => ?_)
  obtain ⟨e_6, rfl⟩ := h_6
  have e_6 := e_6.symm
  subst e_6
  refine V_zret (pc := 9) C hr hlk (by rcases Classical.em (0 ≤ v ∧ v ≤ 3) with z | z; (rw [← bI_t z]; rfl); (rw [← bI_f z]; rfl)) dX10_isSheet_9 ⟨_, rfl, ?_⟩
  exact ⟨rfl, bI_congr key⟩
end S62
