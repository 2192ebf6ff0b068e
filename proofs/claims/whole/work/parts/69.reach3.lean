section S69
variable {l : Launch} {D : va_G} {cy : Nat → ClassId} {ad : Nat → Nat → Nat} {G d : Nat}
theorem unb_hi {M0 : wS} {nt O t bo : Nat} (hU : uO M0 nt O) (hnt : M0.1 0 0 12 = nI nt) (hn7 : nt ≤ 7) (hbo : M0.1 26 0 3 = nI bo) (hb7 : bo < 128) (ht : t < nt) (hb : hasB (M0.1 26 0 3) t) : O.testBit t = false := by
  have h1 : nI O = nI ((2 ^ nt - 1) &&& (127 ^^^ bo)) := by
    rw [← hU.1, kUnb, hnt, hbo]
    exact unb_i nt (by omega) bo hb7
  have h2 : (2 ^ nt - 1) &&& (127 ^^^ bo) < 128 := and_lt (by
    have : ∀ b, b < 128 → 127 ^^^ b < 128 := by decide +kernel
    exact this bo hb7)
  have h3 := hU.2.2
  have e := (nI_eq (by omega) (by omega)).mp h1
  have h4 : bo.testBit t = true := by
    have := hasB_i bo hb7 t (by omega)
    rw [hbo] at hb
    unfold hasB at hb
    rw [this] at hb
    exact hb
  have key : ∀ n, n < 8 → ∀ b, b < 128 → ∀ j, j < n → b.testBit j = true → ((2 ^ n - 1) &&& (127 ^^^ b)).testBit j = false := by decide +kernel
  rw [e]
  exact key nt (by omega) bo hb7 t ht h4
theorem kC2_case {M0 : wS} {nb nt r e1 e2 e3 t b : Nat} (hP : IP M0 nb nt r e1 e2 e3) (hb : b < nb) (ht : t < nt) (hn : ¬ hasB (M0.1 26 0 3) t) : (kCost (kAlone M0 t) r e1 e2 b (M0.1 28 0 b) 0 = -5 ∧ kC2 M0 nb nt r e1 e2 b t = none) ∨ (∃ w, kCost (kAlone M0 t) r e1 e2 b (M0.1 28 0 b) 0 = nI w ∧ kC2 M0 nb nt r e1 e2 b t = some w ∧ w ≤ 2000) := by
  have hkf : kFc M0 r e1 e2 b (M0.1 28 0 b) t = kCost (kAlone M0 t) r e1 e2 b (M0.1 28 0 b) 0 := by
    unfold kFc
    rw [if_neg hn]
  have hr := kFc_range hP (b := b) (by have := hP.1.2; omega) (M0.1 28 0 b) (hP.2.2.2.1 b (by have := hP.1.2; omega)).2.2.2.2 t
  rw [← hkf]
  unfold kC2
  rcases hr with h | ⟨h1, h2⟩
  · refine Or.inl ⟨h, ?_⟩
    rw [if_neg (fun e => by
      have := e.2.2
      rw [h] at this
      exact absurd this (by decide))]
  · refine Or.inr ⟨_, toNat_nI h1, by rw [if_pos ⟨hb, ht, h1⟩], ?_⟩
    have := toNat_nI h1
    have h3 := congrArg Int32.toInt this
    have h4 : (kFc M0 r e1 e2 b (M0.1 28 0 b) t).toNatClampNeg = (kFc M0 r e1 e2 b (M0.1 28 0 b) t).toInt.toNat := rfl
    rw [h4]
    omega
theorem lo_X10_eachOne {p : Program} {e : Env} {s : State} {m : MethodId} {args : Array Value} {below : List Frame} {meth : Method} {c : Code} (C : CX p s m args c cX10_eachOne 6 "CostsAgeModel" D cy ad G (wA ad G) (Rm d) d 0 0) (hr : meth.sig.returnType = (some .int)) (hlk : meth.locks = false) (hG : 56 ≤ G) (hd : 44 ≤ d) {M0 Ms : wS} {nb nt r e1 e2 e3 O bo : Nat} (hC : rC M0 Ms nb nt r e1 e2 e3) (hU : uO M0 nt O) (hbo : M0.1 26 0 3 = nI bo) (hb7 : bo < 128) (Qf : Int32 → wS → Prop) (hQ : ∀ M', qF Ms M' → Qf (encM (mFold (eAt (kC2 M0 nb nt r e1 e2) O nb nt) 128 0 none)) M') : ∀ (n t : Nat) (M : wS), t + n = nt → qF Ms M → encE 46 (eAt (kC2 M0 nb nt r e1 e2) O nb t) M → V p l e (Rm d) s m args below meth c 6 D cy ad G (wA ad G) 0 0 (MQ below (wQ D cy ad G (rI Qf)) args s 0 0 (wA ad G)) 32 [(0, .ref (ad 30 0)), (1, .int (nI t))] [] M := by
  have hn7 := hC.1.2.1.2
  have hnb7 := hC.1.1.2
  have hle := fun t (ht : t ≤ 7) => eAt_le (c2 := kC2 M0 nb nt r e1 e2) hU.2.2 hnb7 (kC2_le hC.1) t ht
  intro n
  induction n with
  | zero =>
    intro t M ht hF hE
    have hm := (hC.q hF).2.1.1.2
    obtain rfl : t = nt := by omega
    refine V_iload_n (pc := 32) C 1 dX10_eachOne_32 rfl rfl ?_
    refine V_aload_n (pc := 33) C 0 dX10_eachOne_33 rfl rfl ?_
    refine get_X10_110 (pc := 34) C (wg hG (by decide) (by decide)) dX10_eachOne_34 ?_
    refine V_icmp_ge (tgt := 227) (pc := 37) C dX10_eachOne_37 (by decide) (fun h_37 => ?_) (fun h_37 => ?_)
    · refine V_iconst (v := -1) (pc := 227) C dX10_eachOne_227 (by decide) ?_
      refine Vs_istore_n (lv' := [(0, _), (1, _)]) (pc := 228) C dX10_eachOne_228 rfl (by decide) rfl rfl ?_
      refine V_iconst (v := 0) (pc := 229) C dX10_eachOne_229 (by decide) ?_
      refine Vs_istore_n (lv' := [(0, _), (1, _), (2, _)]) (pc := 230) C dX10_eachOne_230 rfl (by decide) rfl rfl ?_
      exact l5_X10_eachOne C hr hlk hG hE (hle t hn7) _ 128 0 none (by decide) (fun a h => by cases h) (hQ M hF)
    · rw [hm] at h_37
      exact absurd (nI_le (Nat.le_refl _) (by omega)) h_37
  | succ n ih =>
    intro t M ht hF hE
    have hc := hC.q hF
    have hm := hc.2.1.1.2
    have htn : t < nt := by omega
    have nxt : ∀ (M' : wS), qF Ms M' → encE 46 (eAt (kC2 M0 nb nt r e1 e2) O nb (t + 1)) M' → V p l e (Rm d) s m args below meth c 6 D cy ad G (wA ad G) 0 0 (MQ below (wQ D cy ad G (rI Qf)) args s 0 0 (wA ad G)) 221 [(0, .ref (ad 30 0)), (1, .int (nI t))] [] M' := by
      intro M' g1 g2
      have h3 := ih (t + 1) M' (by omega) g1 g2
      refine Vs_iinc (v := nI (t + 1)) (lv' := [(0, _), (1, _)]) (pc := 221) C 1 dX10_eachOne_221 rfl (by decide) rfl (nI_i1 (t)) rfl ?_
      refine V_goto (tgt := 32) (pc := 224) C dX10_eachOne_224 (by decide) ?_
      exact h3
    refine V_iload_n (pc := 32) C 1 dX10_eachOne_32 rfl rfl ?_
    refine V_aload_n (pc := 33) C 0 dX10_eachOne_33 rfl rfl ?_
    refine get_X10_110 (pc := 34) C (wg hG (by decide) (by decide)) dX10_eachOne_34 ?_
    refine V_icmp_ge (tgt := 227) (pc := 37) C dX10_eachOne_37 (by decide) (fun h_37 => ?_) (fun h_37 => ?_)
    · rw [hm] at h_37
      exact absurd h_37 (nI_ge (by omega) (by omega))
    · refine V_aload_n (pc := 40) C 0 dX10_eachOne_40 rfl rfl ?_
      refine get_X10_113 (pc := 41) C (wg hG (by decide) (by decide)) dX10_eachOne_41 ?_
      refine V_iload_n (pc := 44) C 1 dX10_eachOne_44 rfl rfl ?_
      refine V_ishr (pc := 45) C dX10_eachOne_45 ?_
      refine V_iconst (v := 1) (pc := 46) C dX10_eachOne_46 (by decide) ?_
      refine V_iand (pc := 47) C dX10_eachOne_47 ?_
      rw [hc.2.1.2.1.1]
      refine V_if_ne (tgt := 221) (pc := 48) C dX10_eachOne_48 (by decide) (fun h_48 => ?_) (fun h_48 => ?_)
      · have hb : hasB (M0.1 26 0 3) t := h_48
        have hO := unb_hi hU hC.1.2.1.1 hn7 hbo hb7 htn hb
        refine nxt M hF (fun K hK => ?_)
        show eQ (if O.testBit t then eCellF (fun b => kC2 M0 nb nt r e1 e2 b t) (eAt (kC2 M0 nb nt r e1 e2) O nb t) K 0 nb none else eAt (kC2 M0 nb nt r e1 e2) O nb t K) _
        rw [if_neg (by rw [hO]; decide)]
        exact hE K hK
      · have hb : ¬ hasB (M0.1 26 0 3) t := fun e => e h_48
        have hO := unb_bit hU hC.1.2.1.1 hn7 hbo hb7 htn hb
        refine V_iconst (v := 0) (pc := 51) C dX10_eachOne_51 (by decide) ?_
        refine Vs_istore_n (lv' := [(0, _), (1, _), (2, _)]) (pc := 52) C dX10_eachOne_52 rfl (by decide) rfl rfl ?_
        refine l1_X10_eachOne C hr hlk hG (nI t) _ 128 0 M (by decide) hF (encE_cut.mpr hE) (fun K hK => absurd hK (Nat.not_lt_zero _)) (fun M1 g1 g2 g3 => ?_)
        refine V_iconst (v := 0) (pc := 73) C dX10_eachOne_73 (by decide) ?_
        refine Vs_istore_n (lv' := [(0, _), (1, _), (2, _)]) (pc := 74) C dX10_eachOne_74 rfl (by decide) rfl rfl ?_
        refine l2_X10_eachOne C hr hlk hG hd hC htn (E := cut7 (eAt (kC2 M0 nb nt r e1 e2) O nb t)) (co := fun b => kC2 M0 nb nt r e1 e2 b t) (cut7_le (hle t (by omega))) (fun b a h => kC2_le hC.1 b t a h) (fun b hbb => kC2_case hC.1 hbb htn hb) _ nb 0 M1 (by omega) g1 g2 g3 (fun M2 k1 k2 k3 => ?_)
        refine V_iconst (v := 0) (pc := 194) C dX10_eachOne_194 (by decide) ?_
        refine Vs_istore_n (lv' := [(0, _), (1, _), (2, _)]) (pc := 195) C dX10_eachOne_195 rfl (by decide) rfl rfl ?_
        refine l3_X10_eachOne C hr hlk hG (nI t) _ 128 0 M2 (by decide) k1 k3 (fun K hK => absurd hK (Nat.not_lt_zero _)) (fun M3 m1 m2 => nxt M3 m1 (fun K hK => ?_))
        show eQ (if O.testBit t then eCellF (fun b => kC2 M0 nb nt r e1 e2 b t) (eAt (kC2 M0 nb nt r e1 e2) O nb t) K 0 nb none else eAt (kC2 M0 nb nt r e1 e2) O nb t K) _
        rw [if_pos hO]
        have hm2 : eQ (eCellF (fun b => kC2 M0 nb nt r e1 e2 b t) (cut7 (eAt (kC2 M0 nb nt r e1 e2) O nb t)) K 0 nb none) (M3.1 46 0 K) := m2 K hK
        rw [eCellF_congr (T' := eAt (kC2 M0 nb nt r e1 e2) O nb t) nb 0 none (fun j _ hj hbj => cut7_lt (by have := (pc_bit K hK j (by omega) hbj).2; omega))] at hm2
        exact hm2
theorem r_eachOne (hG : 56 ≤ G) (hd : 44 ≤ d) {M0 M : wS} {nb nt r e1 e2 e3 O bo : Nat} (hC : rC M0 M nb nt r e1 e2 e3) (hU : uO M0 nt O) (hbo : M0.1 26 0 3 = nI bo) (hb7 : bo < 128) : Ctr l D cy ad G d yX10_eachOne cX10_eachOne 6 (some .int) [.ref (ad 30 0)] M (rI fun x M' => qF M M' ∧ x = encM (eBest (eTab (kC2 M0 nb nt r e1 e2) O (pc7 O) nb 128) (pc7 O) (2 ^ nb) 0 none)) := by
  have he := each_eq (c2 := kC2 M0 nb nt r e1 e2) hC.1.1.2 hC.1.2.1.2 hU.2.1 hU.2.2
  refine Ctr.of (lv0 := [(0, _)]) (by decide) (Nat.le_of_ble_eq_true rfl) rfl ?_
  intro p e s m args below meth c C hr hlk _
  have C : CX p s m args c cX10_eachOne 6 "CostsAgeModel" D cy ad G (wA ad G) (Rm d) d 0 0 := C
  refine V_iconst (v := 0) (pc := 0) C dX10_eachOne_0 (by decide) ?_
  refine Vs_istore_n (lv' := [(0, _), (1, _)]) (pc := 1) C dX10_eachOne_1 rfl (by decide) rfl rfl ?_
  refine l0_X10_eachOne C hr hlk hG _ 128 0 M (by decide) qF.rf (fun K hK => absurd hK (Nat.not_lt_zero _)) (fun M' g1 g2 => ?_)
  refine V_iconst (v := 0) (pc := 30) C dX10_eachOne_30 (by decide) ?_
  refine Vs_istore_n (lv' := [(0, _), (1, _)]) (pc := 31) C dX10_eachOne_31 rfl (by decide) rfl rfl ?_
  exact lo_X10_eachOne C hr hlk hG hd hC hU hbo hb7 _ (fun M2 k1 => ⟨k1, by rw [he]⟩) nt 0 M' (by omega) g1 g2
end S69
