section S65
variable {l : Launch} {D : va_G} {cy : Nat → ClassId} {ad : Nat → Nat → Nat} {G d : Nat}
theorem l3_X10_plans {p : Program} {e : Env} {s : State} {m : MethodId} {args : Array Value} {below : List Frame} {meth : Method} {c : Code} (C : CX p s m args c cX10_plans 7 "CostsAgeModel" D cy ad G (wA ad G) (Rm d) d 0 0) (hr : meth.sig.returnType = none) (hlk : meth.locks = false) (hG : 56 ≤ G) {pr : Nat → Option Nat} (hpr : ∀ h p, pr h = some p → p ≤ 2000) {Ms : wS} (lf : Int32) (Qf : wS → Prop) (hQ : ∀ M', qF Ms M' → tabU pr M' 128 → Qf M') : ∀ (n S : Nat) (M : wS), S + n = 128 → 1 ≤ S → qF Ms M → (∀ h, 1 ≤ h → h < 128 → eQ (pr h) (M.1 45 0 h)) → tabU pr M S → V p l e (Rm d) s m args below meth c 7 D cy ad G (wA ad G) 0 0 (MQ below (wQ D cy ad G (rV Qf)) args s 0 0 (wA ad G)) 79 [(0, .ref (ad 30 0)), (1, .int lf), (2, .int (nI S))] [] M := by
  intro n
  induction n with
  | zero =>
    intro S M hS h1 hF hR hT
    obtain rfl : S = 128 := by omega
    refine V_iload_n (pc := 79) C 2 dX10_plans_79 rfl rfl ?_
    refine V_sipush (v := 128) (pc := 80) C dX10_plans_80 (by decide) ?_
    refine V_icmp_ge (tgt := 264) (pc := 83) C dX10_plans_83 (by decide) (fun h_83 => ?_) (fun h_83 => ?_)
    · refine V_vret (pc := 264) C hr hlk dX10_plans_264 ⟨rfl, ?_⟩
      exact hQ M hF hT
    · exact absurd (nI_le (a := 128) (b := 128) (Nat.le_refl _) (by decide)) h_83
  | succ n ih =>
    intro S M hS h1 hF hR hT
    have hi2 : ∀ (M' : wS), qF Ms M' → (∀ h, 1 ≤ h → h < 128 → eQ (pr h) (M'.1 45 0 h)) → tabU pr M' (S + 1) → V p l e (Rm d) s m args below meth c 7 D cy ad G (wA ad G) 0 0 (MQ below (wQ D cy ad G (rV Qf)) args s 0 0 (wA ad G)) 258 [(0, .ref (ad 30 0)), (1, .int lf), (2, .int (nI S))] [] M' := by
      intro M' g1 g2 g3
      have h3 := ih (S + 1) M' (by omega) (by omega) g1 g2 g3
      refine Vs_iinc (v := nI (S + 1)) (lv' := [(0, _), (1, _), (2, _)]) (pc := 258) C 2 dX10_plans_258 rfl (by decide) rfl (nI_i1 (S)) rfl ?_
      refine V_goto (tgt := 79) (pc := 261) C dX10_plans_261 (by decide) ?_
      exact h3
    refine V_iload_n (pc := 79) C 2 dX10_plans_79 rfl rfl ?_
    refine V_sipush (v := 128) (pc := 80) C dX10_plans_80 (by decide) ?_
    refine V_icmp_ge (tgt := 264) (pc := 83) C dX10_plans_83 (by decide) (fun h_83 => ?_) (fun h_83 => ?_)
    · exact absurd h_83 (nI_ge (b := 128) (by omega) (by decide))
    · refine V_aload_n (pc := 86) C 0 dX10_plans_86 rfl rfl ?_
      refine get_X10_50 (pc := 87) C (wg hG (by decide) (by decide)) dX10_plans_87 ?_
      refine V_iload_n (pc := 90) C 2 dX10_plans_90 rfl rfl ?_
      refine V_iconst (v := -1) (pc := 91) C dX10_plans_91 (by decide) ?_
      refine V_iast (pc := 92) C (S) rfl (by omega) (Nat.le_of_ble_eq_true rfl) (wg hG (by decide) (by decide)) (fun _ => wF_42) dX10_plans_92 ?_
      refine V_iload_n (pc := 93) C 2 dX10_plans_93 rfl rfl ?_
      refine V_iload_n (pc := 94) C 2 dX10_plans_94 rfl rfl ?_
      refine V_ineg (pc := 95) C dX10_plans_95 ?_
      refine V_iand (pc := 96) C dX10_plans_96 ?_
      refine Vs_istore_n (lv' := [(0, _), (1, _), (2, _), (3, _)]) (pc := 97) C dX10_plans_97 rfl (by decide) rfl rfl ?_
      refine V_iconst (v := 1) (pc := 98) C dX10_plans_98 (by decide) ?_
      refine Vs_istore (lv' := [(0, _), (1, _), (2, _), (3, _), (4, _)]) (pc := 99) C dX10_plans_99 (by decide) rfl rfl ?_
      rw [lowb_i S (by omega)]
      refine l2_X10_plans C hr hlk hG hpr h1 (by omega) lf _ S 1 (mset M 42 0 S (-1)) (by omega) (Nat.le_refl _) (hF.tr (qF.arr _ (by decide))) (fun h' q1 q2 => ?_) (fun S' hS' => ?_) ?_ hi2
      · rw [mset_at, if_neg (by omega)]
        exact hR h' q1 q2
      · rw [mset_at, if_neg (by omega), mset_at, if_neg (by omega), mset_at, if_neg (by omega)]
        exact hT S' hS'
      · rw [cF_1, mset_at, if_pos ⟨rfl, rfl, rfl⟩]
        rfl
theorem r_plans (hG : 56 ≤ G) (hd : 45 ≤ d) {M0 M : wS} {nb nt r e1 e2 e3 O : Nat} (hC : rC M0 M nb nt r e1 e2 e3) (hU : uO M0 nt O) : Ctr l D cy ad G d yX10_plans cX10_plans 7 none [.ref (ad 30 0)] M (rV fun M' => qF M M' ∧ tabU (kPr M0 O nb nt r e1 e2) M' 128) := by
  have hlf : (1 <<< (M.1 30 0 16 &&& 31) - 1) &&& (M.1 30 0 17 ^^^ -1) = nI O := by
    rw [hC.2.1.1.2, hC.2.1.2.1.1, ← hC.1.2.1.1]
    exact hU.1
  refine Ctr.of (lv0 := [(0, _)]) (by decide) (Nat.le_of_ble_eq_true rfl) rfl ?_
  intro p e s m args below meth c C hr hlk _
  have C : CX p s m args c cX10_plans 7 "CostsAgeModel" D cy ad G (wA ad G) (Rm d) d 0 0 := C
  refine V_aload_n (pc := 0) C 0 dX10_plans_0 rfl rfl ?_
  refine call_X10_288 (pc := 1) C (c_X10_left (d := d - 1) hG M) (by omega) (wg hG (by decide) (by decide)) (Nat.le_of_ble_eq_true rfl) dX10_plans_1 (fun x_1 M_1 h_1 => ?_)
  obtain ⟨e_1, rfl⟩ := h_1
  have e_1 := e_1.symm
  subst e_1
  rw [hlf]
  refine Vs_istore_n (lv' := [(0, _), (1, _)]) (pc := 4) C dX10_plans_4 rfl (by decide) rfl rfl ?_
  refine V_iconst (v := 1) (pc := 5) C dX10_plans_5 (by decide) ?_
  refine Vs_istore_n (lv' := [(0, _), (1, _), (2, _)]) (pc := 6) C dX10_plans_6 rfl (by decide) rfl rfl ?_
  refine l1_X10_plans C hr hlk hG hd hC hU _ 127 1 M (by decide) (Nat.le_refl _) qF.rf (fun h q1 q2 => by omega) (fun M' hF hR => ?_)
  refine V_aload_n (pc := 63) C 0 dX10_plans_63 rfl rfl ?_
  refine get_X10_50 (pc := 64) C (wg hG (by decide) (by decide)) dX10_plans_64 ?_
  refine V_iconst (v := 0) (pc := 67) C dX10_plans_67 (by decide) ?_
  refine V_iconst (v := 0) (pc := 68) C dX10_plans_68 (by decide) ?_
  refine V_iast (pc := 69) C (0) (by decide) (by decide) (Nat.le_of_ble_eq_true rfl) (wg hG (by decide) (by decide)) (fun _ => wF_42) dX10_plans_69 ?_
  refine V_aload_n (pc := 70) C 0 dX10_plans_70 rfl rfl ?_
  refine get_X10_53 (pc := 71) C (wg hG (by decide) (by decide)) dX10_plans_71 ?_
  refine V_iconst (v := 0) (pc := 74) C dX10_plans_74 (by decide) ?_
  refine V_iconst (v := 0) (pc := 75) C dX10_plans_75 (by decide) ?_
  refine V_iast (pc := 76) C (0) (by decide) (by decide) (Nat.le_of_ble_eq_true rfl) (wg hG (by decide) (by decide)) (fun _ => wF_43) dX10_plans_76 ?_
  refine V_iconst (v := 1) (pc := 77) C dX10_plans_77 (by decide) ?_
  refine Vs_istore_n (lv' := [(0, _), (1, _), (2, _)]) (pc := 78) C dX10_plans_78 rfl (by decide) rfl rfl ?_
  refine l3_X10_plans C hr hlk hG (kPr_le hC.1) _ _ (fun M2 g1 g2 => ⟨g1, g2⟩) 127 1 _ (by decide) (Nat.le_refl _) ((hF.tr (qF.arr _ (by decide))).tr (qF.arr _ (by decide))) (fun h q1 q2 => ?_) (fun S' hS' => ?_)
  · rw [mset_at, if_neg (by omega), mset_at, if_neg (by omega)]
    exact hR h q1 q2
  · obtain rfl : S' = 0 := by omega
    rw [plTab_lt (n := 128) (by decide)]
    show eU 0 (some (0, 0, 0)) _ _ _
    refine ⟨?_, ?_, fun e => absurd rfl e⟩
    · simp [mset_at]
      rfl
    · simp [mset_at]
      rfl
theorem r_all (hG : 56 ≤ G) (hd : 46 ≤ d) {M0 M : wS} {nb nt r e1 e2 e3 O : Nat} (hC : rC M0 M nb nt r e1 e2 e3) (hU : uO M0 nt O) (what : Int32) : Ctr l D cy ad G d yX10_all cX10_all 3 (some .int) [.ref (ad 30 0), .int what] M (rI fun x M' => qF M M' ∧ ((0 ≤ what ∧ what ≤ 1) → x = match plTab (kPr M0 O nb nt r e1 e2) 128 O with | none => -1 | some q => if what = 0 then nI q.1 else nI q.2.1) ∧ (¬ (0 ≤ what ∧ what ≤ 1) → x = -2)) := by
  have hB := plTab_B (kPr_le (O := O) hC.1) 128 (Nat.le_refl _) O
  have hO := hU.2.2
  refine Ctr.of (lv0 := [(0, _), (1, _)]) (by decide) (Nat.le_of_ble_eq_true rfl) rfl ?_
  intro p e s m args below meth c C hr hlk _
  have C : CX p s m args c cX10_all 3 "CostsAgeModel" D cy ad G (wA ad G) (Rm d) d 0 0 := C
  refine V_iload_n (pc := 0) C 1 dX10_all_0 rfl rfl ?_
  refine V_i2l (pc := 1) C dX10_all_1 ?_
  refine V_lconst (v := 0) (pc := 2) C dX10_all_2 (by decide) ?_
  refine V_lconst (v := 1) (pc := 3) C dX10_all_3 (by decide) ?_
  refine call_X10_106 (pc := 4) C (c_in (d := d - 1) M what 0 1 (by decide) (by decide)) (by omega) (Nat.le_of_ble_eq_true rfl) dX10_all_4 (fun x_4 M_4 h_4 => ?_)
  obtain ⟨e_4, rfl⟩ := h_4
  have e_4 := e_4.symm
  subst e_4
  refine V_if_ne (tgt := 13) (pc := 7) C dX10_all_7 (by decide) (fun h_7 => ?_) (fun h_7 => ?_)
  · have h_7 := bJ_1.mp h_7
    refine V_aload_n (pc := 13) C 0 dX10_all_13 rfl rfl ?_
    refine call_X10_318 (pc := 14) C (r_plans (d := d - 1) hG (by omega) hC hU) (by omega) (wg hG (by decide) (by decide)) (Nat.le_of_ble_eq_true rfl) dX10_all_14 (fun M_14 h_14 => ?_)
    obtain ⟨f1, f2⟩ := h_14
    have hc := hC.q f1
    have hlf : (1 <<< (M_14.1 30 0 16 &&& 31) - 1) &&& (M_14.1 30 0 17 ^^^ -1) = nI O := by
      rw [hc.2.1.1.2, hc.2.1.2.1.1, ← hC.1.2.1.1]
      exact hU.1
    have hT := f2 O hO
    generalize plTab (kPr M0 O nb nt r e1 e2) 128 O = o at hT hB ⊢
    refine V_aload_n (pc := 17) C 0 dX10_all_17 rfl rfl ?_
    refine call_X10_288 (pc := 18) C (c_X10_left (d := d - 1) hG M_14) (by omega) (wg hG (by decide) (by decide)) (Nat.le_of_ble_eq_true rfl) dX10_all_18 (fun x_18 M_18 h_18 => ?_)
    obtain ⟨e_18, rfl⟩ := h_18
    have e_18 := e_18.symm
    subst e_18
    rw [hlf]
    refine Vs_istore_n (lv' := [(0, _), (1, _), (2, _)]) (pc := 21) C dX10_all_21 rfl (by decide) rfl rfl ?_
    refine V_aload_n (pc := 22) C 0 dX10_all_22 rfl rfl ?_
    refine get_X10_50 (pc := 23) C (wg hG (by decide) (by decide)) dX10_all_23 ?_
    refine V_iload_n (pc := 26) C 2 dX10_all_26 rfl rfl ?_
    refine V_iald (pc := 27) C (O) rfl hO (Nat.le_of_ble_eq_true rfl) (wg hG (by decide) (by decide)) wF_42 dX10_all_27 ?_
    refine V_iconst (v := -1) (pc := 28) C dX10_all_28 (by decide) ?_
    refine V_icmp_ne (tgt := 36) (pc := 29) C dX10_all_29 (by decide) (fun h_29 => ?_) (fun h_29 => ?_)
    · have hs : ¬ o = none := fun e => h_29 ((eU_m1 hT (fun q hq => by have := hB q hq; omega)).mpr e)
      obtain ⟨q, hq⟩ := Option.ne_none_iff_exists'.mp hs
      subst hq
      refine V_iload_n (pc := 36) C 1 dX10_all_36 rfl rfl ?_
      refine V_if_ne (tgt := 49) (pc := 37) C dX10_all_37 (by decide) (fun h_37 => ?_) (fun h_37 => ?_)
      · refine V_aload_n (pc := 49) C 0 dX10_all_49 rfl rfl ?_
        refine get_X10_53 (pc := 50) C (wg hG (by decide) (by decide)) dX10_all_50 ?_
        refine V_iload_n (pc := 53) C 2 dX10_all_53 rfl rfl ?_
        refine V_iald (pc := 54) C (O) rfl hO (Nat.le_of_ble_eq_true rfl) (wg hG (by decide) (by decide)) wF_43 dX10_all_54 ?_
        refine V_iret (pc := 55) C hr hlk dX10_all_55 ⟨_, rfl, ?_⟩
        refine ⟨f1, fun _ => ?_, fun e => absurd h_7 e⟩
        simp only []
        rw [if_neg h_37]
        exact hT.2.1
      · refine V_aload_n (pc := 40) C 0 dX10_all_40 rfl rfl ?_
        refine get_X10_50 (pc := 41) C (wg hG (by decide) (by decide)) dX10_all_41 ?_
        refine V_iload_n (pc := 44) C 2 dX10_all_44 rfl rfl ?_
        refine V_iald (pc := 45) C (O) rfl hO (Nat.le_of_ble_eq_true rfl) (wg hG (by decide) (by decide)) wF_42 dX10_all_45 ?_
        refine V_goto (tgt := 55) (pc := 46) C dX10_all_46 (by decide) ?_
        refine V_iret (pc := 55) C hr hlk dX10_all_55 ⟨_, rfl, ?_⟩
        refine ⟨f1, fun _ => ?_, fun e => absurd h_7 e⟩
        simp only []
        rw [if_pos h_37]
        exact hT.1
    · have hs := (eU_m1 hT (fun q hq => by have := hB q hq; omega)).mp h_29
      subst hs
      refine V_iconst (v := -1) (pc := 32) C dX10_all_32 (by decide) ?_
      refine V_goto (tgt := 55) (pc := 33) C dX10_all_33 (by decide) ?_
      refine V_iret (pc := 55) C hr hlk dX10_all_55 ⟨_, rfl, ?_⟩
      exact ⟨f1, fun _ => rfl, fun e => absurd h_7 e⟩
  · have h_7 := bJ_0.mp h_7
    refine V_bipush (v := -2) (pc := 10) C dX10_all_10 (by decide) ?_
    refine V_iret (pc := 12) C hr hlk dX10_all_12 ⟨_, rfl, ?_⟩
    exact ⟨qF.rf, fun e => absurd e h_7, fun _ => rfl⟩
theorem bit_sub {S h t : Nat} (h1 : S.testBit t = true) (h2 : h.testBit t = false) : (S ^^^ h).testBit t = true := by
  rw [Nat.testBit_xor, h1, h2]
  rfl
theorem pc_sub : ∀ S, S < 128 → ∀ h, h < 128 → h &&& S = h → 1 ≤ h → pc7 (S ^^^ h) + 1 ≤ pc7 S := by decide +kernel
theorem tb0 : ∀ t, t < 7 → (0 : Nat).testBit t = false := by decide
theorem lp_X10_heap {p : Program} {e : Env} {s : State} {m : MethodId} {args : Array Value} {below : List Frame} {meth : Method} {c : Code} (C : CX p s m args c cX10_heap 3 "CostsAgeModel" D cy ad G (wA ad G) (Rm d) d 0 0) (hr : meth.sig.returnType = (some .int)) (hlk : meth.locks = false) (hG : 56 ≤ G) {pr : Nat → Option Nat} {M : wS} {t : Nat} (ht : t < 7) (hT : tabU pr M 128) (Qf : Int32 → wS → Prop) : ∀ (n S : Nat), pc7 S ≤ n → S < 128 → S.testBit t = true → (∃ q, plTab pr 128 S = some q) → Qf (hoF (plTab pr 128) t n S) M → V p l e (Rm d) s m args below meth c 3 D cy ad G (wA ad G) 0 0 (MQ below (wQ D cy ad G (rI Qf)) args s 0 0 (wA ad G)) 47 [(0, .ref (ad 30 0)), (1, .int (nI t)), (2, .int (nI S))] [] M := by
  intro n
  induction n with
  | zero =>
    intro S hp hS hb _ _
    have h0 : S = 0 := (pc7_lt S hS).2.mp (by omega)
    rw [h0, tb0 t ht] at hb
    exact absurd hb (by decide)
  | succ n ih =>
    intro S hp hS hb hex hQ
    have hS0 : ¬ S = 0 := fun e => by
      rw [e, tb0 t ht] at hb
      exact absurd hb (by decide)
    obtain ⟨q, hq⟩ := hex
    have hF := plTab_F (pr := pr) hS (Nat.pos_of_ne_zero hS0) q hq
    obtain ⟨hm1, hm2, hm3⟩ := hsL_mem.mp hF.1
    have hcell := hT S hS
    rw [hq] at hcell
    have hf := hcell.2.2 hS0
    have hh : q.2.2 < 128 := by omega
    obtain ⟨x1, x2, x3⟩ := andn_i S hS q.2.2 hh hm2
    have hf1 := (hs_facts S hS q.2.2 hh hm2 hm3).1
    have hpc := pc_sub S hS q.2.2 hh hm2 hf1
    have hbi := hasB_i q.2.2 hh t ht
    unfold hoF at hQ
    rw [if_neg hS0, hq] at hQ
    simp only [] at hQ
    refine V_aload_n (pc := 47) C 0 dX10_heap_47 rfl rfl ?_
    refine get_X10_56 (pc := 48) C (wg hG (by decide) (by decide)) dX10_heap_48 ?_
    refine V_iload_n (pc := 51) C 2 dX10_heap_51 rfl rfl ?_
    refine V_iald (pc := 52) C (S) rfl hS (Nat.le_of_ble_eq_true rfl) (wg hG (by decide) (by decide)) wF_44 dX10_heap_52 ?_
    rw [hf]
    refine V_iload_n (pc := 53) C 1 dX10_heap_53 rfl rfl ?_
    refine V_ishr (pc := 54) C dX10_heap_54 ?_
    refine V_iconst (v := 1) (pc := 55) C dX10_heap_55 (by decide) ?_
    refine V_iand (pc := 56) C dX10_heap_56 ?_
    refine V_if_ne (tgt := 74) (pc := 57) C dX10_heap_57 (by decide) (fun h_57 => ?_) (fun h_57 => ?_)
    · have hy : hasB (nI q.2.2) t := h_57
      rw [if_pos hy] at hQ
      refine V_aload_n (pc := 74) C 0 dX10_heap_74 rfl rfl ?_
      refine get_X10_56 (pc := 75) C (wg hG (by decide) (by decide)) dX10_heap_75 ?_
      refine V_iload_n (pc := 78) C 2 dX10_heap_78 rfl rfl ?_
      refine V_iald (pc := 79) C (S) rfl hS (Nat.le_of_ble_eq_true rfl) (wg hG (by decide) (by decide)) wF_44 dX10_heap_79 ?_
      rw [hf]
      refine V_iret (pc := 80) C hr hlk dX10_heap_80 ⟨_, rfl, ?_⟩
      exact hQ
    · have hn : ¬ hasB (nI q.2.2) t := fun e => e h_57
      rw [if_neg hn] at hQ
      have hbf : q.2.2.testBit t = false := by
        rw [Bool.eq_false_iff]
        exact fun e => hn (by unfold hasB; rw [hbi]; exact e)
      refine V_iload_n (pc := 60) C 2 dX10_heap_60 rfl rfl ?_
      refine V_aload_n (pc := 61) C 0 dX10_heap_61 rfl rfl ?_
      refine get_X10_56 (pc := 62) C (wg hG (by decide) (by decide)) dX10_heap_62 ?_
      refine V_iload_n (pc := 65) C 2 dX10_heap_65 rfl rfl ?_
      refine V_iald (pc := 66) C (S) rfl hS (Nat.le_of_ble_eq_true rfl) (wg hG (by decide) (by decide)) wF_44 dX10_heap_66 ?_
      refine V_iconst (v := -1) (pc := 67) C dX10_heap_67 (by decide) ?_
      refine V_ixor (pc := 68) C dX10_heap_68 ?_
      refine V_iand (pc := 69) C dX10_heap_69 ?_
      rw [hf, x1]
      refine Vs_istore_n (lv' := [(0, _), (1, _), (2, _)]) (pc := 70) C dX10_heap_70 rfl (by decide) rfl rfl ?_
      refine V_goto (tgt := 47) (pc := 71) C dX10_heap_71 (by decide) ?_
      exact ih (S ^^^ q.2.2) (by omega) x2 (bit_sub hb hbf) hF.2 hQ
theorem unb_bit {M0 : wS} {nt O t bo : Nat} (hU : uO M0 nt O) (hnt : M0.1 0 0 12 = nI nt) (hn7 : nt ≤ 7) (hbo : M0.1 26 0 3 = nI bo) (hb7 : bo < 128) (ht : t < nt) (hb : ¬ hasB (M0.1 26 0 3) t) : O.testBit t = true := by
  have h1 : nI O = nI ((2 ^ nt - 1) &&& (127 ^^^ bo)) := by
    rw [← hU.1, kUnb, hnt, hbo]
    exact unb_i nt (by omega) bo hb7
  have h2 : (2 ^ nt - 1) &&& (127 ^^^ bo) < 128 := and_lt (by
    have : ∀ b, b < 128 → 127 ^^^ b < 128 := by decide +kernel
    exact this bo hb7)
  have h3 := hU.2.2
  have e := (nI_eq (by omega) (by omega)).mp h1
  have h4 : ¬ bo.testBit t = true := by
    have := hasB_i bo hb7 t (by omega)
    rw [hbo] at hb
    unfold hasB at hb
    rw [this] at hb
    exact hb
  have key : ∀ n, n < 8 → ∀ b, b < 128 → ∀ j, j < n → b.testBit j = false → ((2 ^ n - 1) &&& (127 ^^^ b)).testBit j = true := by decide +kernel
  rw [e]
  exact key nt (by omega) bo hb7 t ht (by rw [Bool.eq_false_iff]; exact h4)
theorem pc7_le : ∀ S, S < 128 → pc7 S ≤ 7 := by decide +kernel
theorem r_heap (hG : 56 ≤ G) (hd : 46 ≤ d) {M0 M : wS} {nb nt r e1 e2 e3 O bo : Nat} (hC : rC M0 M nb nt r e1 e2 e3) (hU : uO M0 nt O) (hbo : M0.1 26 0 3 = nI bo) (hb7 : bo < 128) (th : Int32) : Ctr l D cy ad G d yX10_heap cX10_heap 3 (some .int) [.ref (ad 30 0), .int th] M (rI fun x M' => qF M M' ∧ ((0 ≤ th ∧ th < nI nt) → (hasB (M0.1 26 0 3) th.toNatClampNeg → x = -3) ∧ (¬ hasB (M0.1 26 0 3) th.toNatClampNeg → (plTab (kPr M0 O nb nt r e1 e2) 128 O = none → x = -1) ∧ ((∃ q, plTab (kPr M0 O nb nt r e1 e2) 128 O = some q) → x = hoF (plTab (kPr M0 O nb nt r e1 e2) 128) th.toNatClampNeg 7 O))) ∧ (¬ (0 ≤ th ∧ th < nI nt) → x = -2)) := by
  have hn7 := hC.1.2.1.2
  have hB := plTab_B (kPr_le (O := O) hC.1) 128 (Nat.le_refl _) O
  have hO := hU.2.2
  refine Ctr.of (lv0 := [(0, _), (1, _)]) (by decide) (Nat.le_of_ble_eq_true rfl) rfl ?_
  intro p e s m args below meth c C hr hlk _
  have C : CX p s m args c cX10_heap 3 "CostsAgeModel" D cy ad G (wA ad G) (Rm d) d 0 0 := C
  refine V_aload_n (pc := 0) C 0 dX10_heap_0 rfl rfl ?_
  refine V_iload_n (pc := 1) C 1 dX10_heap_1 rfl rfl ?_
  refine call_X10_128 (pc := 2) C (c_X10_isThing (d := d - 1) hG (by omega) M hC.2.1.1.2 hn7 th) (by omega) (wg hG (by decide) (by decide)) (Nat.le_of_ble_eq_true rfl) dX10_heap_2 (fun x_2 M_2 h_2 => ?_)
  obtain ⟨e_2, rfl⟩ := h_2
  have e_2 := e_2.symm
  subst e_2
  refine V_if_ne (tgt := 11) (pc := 5) C dX10_heap_5 (by decide) (fun h_5 => ?_) (fun h_5 => ?_)
  · have h_5 := bJ_1.mp h_5
    obtain ⟨t, ht, rfl⟩ := ix_of h_5.1 h_5.2 (by omega)
    rw [nI_clamp (by omega)]
    refine V_aload_n (pc := 11) C 0 dX10_heap_11 rfl rfl ?_
    refine get_X10_113 (pc := 12) C (wg hG (by decide) (by decide)) dX10_heap_12 ?_
    refine V_iload_n (pc := 15) C 1 dX10_heap_15 rfl rfl ?_
    refine V_ishr (pc := 16) C dX10_heap_16 ?_
    refine V_iconst (v := 1) (pc := 17) C dX10_heap_17 (by decide) ?_
    refine V_iand (pc := 18) C dX10_heap_18 ?_
    refine V_iconst (v := 1) (pc := 19) C dX10_heap_19 (by decide) ?_
    rw [hC.2.1.2.1.1]
    refine V_icmp_ne (tgt := 26) (pc := 20) C dX10_heap_20 (by decide) (fun h_20 => ?_) (fun h_20 => ?_)
    · rw [hasB_1] at h_20
      refine V_aload_n (pc := 26) C 0 dX10_heap_26 rfl rfl ?_
      refine call_X10_318 (pc := 27) C (r_plans (d := d - 1) hG (by omega) hC hU) (by omega) (wg hG (by decide) (by decide)) (Nat.le_of_ble_eq_true rfl) dX10_heap_27 (fun M_27 h_27 => ?_)
      obtain ⟨f1, f2⟩ := h_27
      have hc := hC.q f1
      have hlf : (1 <<< (M_27.1 30 0 16 &&& 31) - 1) &&& (M_27.1 30 0 17 ^^^ -1) = nI O := by
        rw [hc.2.1.1.2, hc.2.1.2.1.1, ← hC.1.2.1.1]
        exact hU.1
      have hT := f2 O hO
      have hub := unb_bit hU hC.1.2.1.1 hn7 hbo hb7 ht h_20
      refine V_aload_n (pc := 30) C 0 dX10_heap_30 rfl rfl ?_
      refine call_X10_288 (pc := 31) C (c_X10_left (d := d - 1) hG M_27) (by omega) (wg hG (by decide) (by decide)) (Nat.le_of_ble_eq_true rfl) dX10_heap_31 (fun x_31 M_31 h_31 => ?_)
      obtain ⟨e_31, rfl⟩ := h_31
      have e_31 := e_31.symm
      subst e_31
      rw [hlf]
      refine Vs_istore_n (lv' := [(0, _), (1, _), (2, _)]) (pc := 34) C dX10_heap_34 rfl (by decide) rfl rfl ?_
      refine V_aload_n (pc := 35) C 0 dX10_heap_35 rfl rfl ?_
      refine get_X10_50 (pc := 36) C (wg hG (by decide) (by decide)) dX10_heap_36 ?_
      refine V_iload_n (pc := 39) C 2 dX10_heap_39 rfl rfl ?_
      refine V_iald (pc := 40) C (O) rfl hO (Nat.le_of_ble_eq_true rfl) (wg hG (by decide) (by decide)) wF_42 dX10_heap_40 ?_
      refine V_iconst (v := -1) (pc := 41) C dX10_heap_41 (by decide) ?_
      refine V_icmp_ne (tgt := 47) (pc := 42) C dX10_heap_42 (by decide) (fun h_42 => ?_) (fun h_42 => ?_)
      · have hs : ¬ plTab (kPr M0 O nb nt r e1 e2) 128 O = none := fun e => h_42 ((eU_m1 hT (fun q hq => by have := hB q hq; omega)).mpr e)
        have hex := Option.ne_none_iff_exists'.mp hs
        exact lp_X10_heap C hr hlk hG (by omega) f2 _ 7 O (pc7_le O hO) hO hub hex ⟨f1, fun _ => ⟨fun e => absurd e h_20, fun _ => ⟨fun e => absurd e hs, fun _ => rfl⟩⟩, fun e => absurd h_5 e⟩
      · have hs := (eU_m1 hT (fun q hq => by have := hB q hq; omega)).mp h_42
        refine V_iconst (v := -1) (pc := 45) C dX10_heap_45 (by decide) ?_
        refine V_iret (pc := 46) C hr hlk dX10_heap_46 ⟨_, rfl, ?_⟩
        exact ⟨f1, fun _ => ⟨fun e => absurd e h_20, fun _ => ⟨fun _ => rfl, fun ⟨q, hq⟩ => by rw [hs] at hq; cases hq⟩⟩, fun e => absurd h_5 e⟩
    · rw [hasB_1] at h_20
      refine V_bipush (v := -3) (pc := 23) C dX10_heap_23 (by decide) ?_
      refine V_iret (pc := 25) C hr hlk dX10_heap_25 ⟨_, rfl, ?_⟩
      exact ⟨qF.rf, fun _ => ⟨fun _ => rfl, fun e => absurd h_20 e⟩, fun e => absurd h_5 e⟩
  · have h_5 := bJ_0.mp h_5
    refine V_bipush (v := -2) (pc := 8) C dX10_heap_8 (by decide) ?_
    refine V_iret (pc := 10) C hr hlk dX10_heap_10 ⟨_, rfl, ?_⟩
    exact ⟨qF.rf, fun e => absurd e h_5, fun _ => rfl⟩
end S65
