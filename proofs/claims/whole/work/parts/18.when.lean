section S18
variable {l : Launch} {D : va_G} {cy : Nat → ClassId} {ad : Nat → Nat → Nat} {G d : Nat}
/-- the week and the least cost so far -/
def wStep (n : Nat) (c : Int32) (q : Int32 × Int32) : Int32 × Int32 := if c < 0 then q else if q.2 < 0 then (nI n, c) else if q.2 ≤ c then q else (nI n, c)
def wRun (f : Nat → Int32) : Nat → Nat → (Int32 × Int32) → (Int32 × Int32)
  | _, 0, q => q
  | i, n + 1, q => wRun f (i + 1) n (wStep i (f i) q)
theorem lp_X9_when {p : Program} {e : Env} {s : State} {m : MethodId} {args : Array Value} {below : List Frame} {meth : Method} {c : Code} (C : CX p s m args c cX9_when 7 "CostsAge" D cy ad G (wA ad G) (Rm d) d 0 0) (hr : meth.sig.returnType = (some .int)) (hlk : meth.locks = false) (hG : 30 ≤ G) (hd : 6 ≤ d) (M : wS) {nb nt r e1 e2 e3 : Nat} (hP : IP M nb nt r e1 e2 e3) (th what : Int32) (Qf : Int32 → wS → Prop) : ∀ (n i : Nat) (q : Int32 × Int32) (M1 : wS), i + n = 104 → Sc M M1 → (∀ M', Sc M M' → Qf (if what = 0 then (wRun (fun j => kLeast M nb r e1 e2 (nI j)) i n q).1 else (wRun (fun j => kLeast M nb r e1 e2 (nI j)) i n q).2) M') → V p l e (Rm d) s m args below meth c 7 D cy ad G (wA ad G) 0 0 (MQ below (wQ D cy ad G (rI Qf)) args s 0 0 (wA ad G)) 38 [(0, .ref (ad 0 0)), (1, .int th), (2, .int what), (3, .int q.1), (4, .int q.2), (5, .int (nI i))] [] M1 := by
  intro n
  induction n with
  | zero =>
    intro i q M1 hi hS hq
    have hi2 : nI 103 < nI i := nI_lt (by omega) (by omega)
    refine V_iload (pc := 38) C 5 dX9_when_38 rfl ?_
    refine V_bipush (v := 103) (pc := 40) C dX9_when_40 (by decide) ?_
    refine V_icmp_gt (tgt := 83) (pc := 42) C dX9_when_42 (by decide) (fun h_42 => ?_) (fun h_42 => ?_)
    · refine V_iload_n (pc := 83) C 2 dX9_when_83 rfl rfl ?_
      refine V_if_ne (tgt := 91) (pc := 84) C dX9_when_84 (by decide) (fun h_84 => ?_) (fun h_84 => ?_)
      · refine V_iload (pc := 91) C 4 dX9_when_91 rfl ?_
        refine V_iret (pc := 93) C hr hlk dX9_when_93 ⟨_, rfl, ?_⟩
        simpa only [if_neg h_84, wRun] using hq M1 hS
      · refine V_iload_n (pc := 87) C 3 dX9_when_87 rfl rfl ?_
        refine V_goto (tgt := 93) (pc := 88) C dX9_when_88 (by decide) ?_
        refine V_iret (pc := 93) C hr hlk dX9_when_93 ⟨_, rfl, ?_⟩
        simpa only [if_pos h_84, wRun] using hq M1 hS
    · exact absurd hi2 h_42
  | succ n ih =>
    intro i q M1 hi hS hq
    have hi2 : ¬ nI 103 < nI i := nI_nlt (by omega) (by omega)
    have hn0 : 0 ≤ nI i ∧ nI i ≤ 103 := ⟨nI_pos' (by omega), nI_le (a := i) (b := 103) (by omega) (by decide)⟩
    have hP2 := hP.scr hS.scr
    have hq2 : ∀ M', Sc M M' → Qf (if what = 0 then (wRun (fun j => kLeast M nb r e1 e2 (nI j)) (i + 1) n (wStep i (kLeast M nb r e1 e2 (nI i)) q)).1 else (wRun (fun j => kLeast M nb r e1 e2 (nI j)) (i + 1) n (wStep i (kLeast M nb r e1 e2 (nI i)) q)).2) M' := hq
    have hkl : kLeast M1 nb r e1 e2 (nI i) = kLeast M nb r e1 e2 (nI i) := by
      unfold kLeast
      exact congrArg (fun f => kLeastF f 0 nb (-5)) (funext fun k => by rw [kCost_sc hS, hS.1 28 0 (by decide) (by decide)])
    refine V_iload (pc := 38) C 5 dX9_when_38 rfl ?_
    refine V_bipush (v := 103) (pc := 40) C dX9_when_40 (by decide) ?_
    refine V_icmp_gt (tgt := 83) (pc := 42) C dX9_when_42 (by decide) (fun h_42 => ?_) (fun h_42 => ?_)
    · exact absurd h_42 hi2
    · refine V_aload_n (pc := 45) C 0 dX9_when_45 rfl rfl ?_
      refine V_iload (pc := 46) C 5 dX9_when_46 rfl ?_
      refine call_X9_186 (pc := 48) C (c_X9_leastCost (d := d - 1) hG (by omega) M1 hP2.1.1 hP2.1.2 hP2.2.2.1 hP2.2.2.2.1 hP2.2.2.2.2 (nI i) hn0) (by omega) (wg hG (by decide) (by decide)) (Nat.le_of_ble_eq_true rfl) dX9_when_48 (fun x_48 M_48 h_48 => ?_)
      obtain ⟨hS1, rfl⟩ := h_48
      have hS2 := hS.tr hS1
      rw [hkl]
      generalize kLeast M nb r e1 e2 (nI i) = v at hq2 ⊢
      refine Vs_istore (lv' := [(0, _), (1, _), (2, _), (3, _), (4, _), (5, _), (6, _)]) (pc := 51) C dX9_when_51 (by decide) rfl rfl ?_
      refine V_iload (pc := 53) C 6 dX9_when_53 rfl ?_
      refine V_if_lt (tgt := 77) (pc := 55) C dX9_when_55 (by decide) (fun h_55 => ?_) (fun h_55 => ?_)
      · refine Vs_iinc (v := nI (i + 1)) (lv' := [(0, _), (1, _), (2, _), (3, _), (4, _), (5, _), (6, _)]) (pc := 77) C 5 dX9_when_77 rfl (by decide) rfl (nI_i1 (i)) rfl ?_
        refine V_goto (tgt := 38) (pc := 80) C dX9_when_80 (by decide) ?_
        refine V_loc (lv' := [(0, _), (1, _), (2, _), (3, _), (4, _), (5, _)]) [0, 1, 2, 3, 4, 5] rfl ?_
        exact ih (i + 1) q _ (by omega) hS2 (by simpa only [wStep, if_pos h_55] using hq2)
      · refine V_iload (pc := 58) C 4 dX9_when_58 rfl ?_
        refine V_if_lt (tgt := 70) (pc := 60) C dX9_when_60 (by decide) (fun h_60 => ?_) (fun h_60 => ?_)
        · refine V_iload (pc := 70) C 5 dX9_when_70 rfl ?_
          refine Vs_istore_n (lv' := [(0, _), (1, _), (2, _), (3, _), (4, _), (5, _), (6, _)]) (pc := 72) C dX9_when_72 rfl (by decide) rfl rfl ?_
          refine V_iload (pc := 73) C 6 dX9_when_73 rfl ?_
          refine Vs_istore (lv' := [(0, _), (1, _), (2, _), (3, _), (4, _), (5, _), (6, _)]) (pc := 75) C dX9_when_75 (by decide) rfl rfl ?_
          refine Vs_iinc (v := nI (i + 1)) (lv' := [(0, _), (1, _), (2, _), (3, _), (4, _), (5, _), (6, _)]) (pc := 77) C 5 dX9_when_77 rfl (by decide) rfl (nI_i1 (i)) rfl ?_
          refine V_goto (tgt := 38) (pc := 80) C dX9_when_80 (by decide) ?_
          refine V_loc (lv' := [(0, _), (1, _), (2, _), (3, _), (4, _), (5, _)]) [0, 1, 2, 3, 4, 5] rfl ?_
          exact ih (i + 1) (nI i, v) _ (by omega) hS2 (by simpa only [wStep, if_neg h_55, if_pos h_60] using hq2)
        · refine V_iload (pc := 63) C 6 dX9_when_63 rfl ?_
          refine V_iload (pc := 65) C 4 dX9_when_65 rfl ?_
          refine V_icmp_ge (tgt := 77) (pc := 67) C dX9_when_67 (by decide) (fun h_67 => ?_) (fun h_67 => ?_)
          · refine Vs_iinc (v := nI (i + 1)) (lv' := [(0, _), (1, _), (2, _), (3, _), (4, _), (5, _), (6, _)]) (pc := 77) C 5 dX9_when_77 rfl (by decide) rfl (nI_i1 (i)) rfl ?_
            refine V_goto (tgt := 38) (pc := 80) C dX9_when_80 (by decide) ?_
            refine V_loc (lv' := [(0, _), (1, _), (2, _), (3, _), (4, _), (5, _)]) [0, 1, 2, 3, 4, 5] rfl ?_
            exact ih (i + 1) q _ (by omega) hS2 (by simpa only [wStep, if_neg h_55, if_neg h_60, if_pos h_67] using hq2)
          · refine V_iload (pc := 70) C 5 dX9_when_70 rfl ?_
            refine Vs_istore_n (lv' := [(0, _), (1, _), (2, _), (3, _), (4, _), (5, _), (6, _)]) (pc := 72) C dX9_when_72 rfl (by decide) rfl rfl ?_
            refine V_iload (pc := 73) C 6 dX9_when_73 rfl ?_
            refine Vs_istore (lv' := [(0, _), (1, _), (2, _), (3, _), (4, _), (5, _), (6, _)]) (pc := 75) C dX9_when_75 (by decide) rfl rfl ?_
            refine Vs_iinc (v := nI (i + 1)) (lv' := [(0, _), (1, _), (2, _), (3, _), (4, _), (5, _), (6, _)]) (pc := 77) C 5 dX9_when_77 rfl (by decide) rfl (nI_i1 (i)) rfl ?_
            refine V_goto (tgt := 38) (pc := 80) C dX9_when_80 (by decide) ?_
            refine V_loc (lv' := [(0, _), (1, _), (2, _), (3, _), (4, _), (5, _)]) [0, 1, 2, 3, 4, 5] rfl ?_
            exact ih (i + 1) (nI i, v) _ (by omega) hS2 (by simpa only [wStep, if_neg h_55, if_neg h_60, if_neg h_67] using hq2)
def kAlone (M : wS) (t : Nat) : wS := kShow M (M.1 6 t 0) (M.1 6 t 1) (M.1 29 0 t)
theorem kAlone_scr (M : wS) (t : Nat) : Scr M (kAlone M t) := kShow_scr _ _ _ _
def kWhen (M : wS) (nb r e1 e2 t : Nat) : Int32 × Int32 := wRun (fun j => kLeast (kAlone M t) nb r e1 e2 (nI j)) 0 104 (-1, -1)
theorem c_X9_when (hG : 30 ≤ G) (hd : 6 ≤ d) (M : wS) {nb nt r e1 e2 e3 : Nat} (hP : IP M nb nt r e1 e2 e3) (th what : Int32) : Ctr l D cy ad G d yX9_when cX9_when 7 (some .int) [.ref (ad 0 0), .int th, .int what] M (rI fun x M' => Scr M M' ∧ ((0 ≤ th ∧ th < nI nt) ∧ (0 ≤ what ∧ what ≤ 1) → (hasB (M.1 26 0 3) th.toNatClampNeg → x = -3) ∧ (¬ hasB (M.1 26 0 3) th.toNatClampNeg → x = if what = 0 then (kWhen M nb r e1 e2 th.toNatClampNeg).1 else (kWhen M nb r e1 e2 th.toNatClampNeg).2)) ∧ (¬ ((0 ≤ th ∧ th < nI nt) ∧ (0 ≤ what ∧ what ≤ 1)) → x = -2)) := by
  obtain ⟨⟨hnb, hn7⟩, ⟨hnt, ht7⟩, hX, hB, hw⟩ := id hP
  refine Ctr.of (lv0 := [(0, _), (1, _), (2, _)]) (by decide) (Nat.le_of_ble_eq_true rfl) rfl ?_
  intro p e s m args below meth c C hr hlk _
  have C : CX p s m args c cX9_when 7 "CostsAge" D cy ad G (wA ad G) (Rm d) d 0 0 := C
  refine V_aload_n (pc := 0) C 0 dX9_when_0 rfl rfl ?_
  refine V_iload_n (pc := 1) C 1 dX9_when_1 rfl rfl ?_
  refine call_X9_147 (pc := 2) C (c_X9_isWare (d := d - 1) hG M _) (by omega) (wg hG (by decide) (by decide)) (Nat.le_of_ble_eq_true rfl) dX9_when_2 (fun x_2 M_2 h_2 => ?_)
  obtain ⟨e_2, rfl⟩ := h_2
  have e_2 := e_2.symm
  subst e_2
  refine V_if_eq (tgt := 16) (pc := 5) C dX9_when_5 (by decide) (fun h_5 => ?_) (fun h_5 => ?_)
  · have h_5 := bJ_0.mp h_5
    rw [hnt] at h_5
    refine V_bipush (v := -2) (pc := 16) C dX9_when_16 (by decide) ?_
    refine V_iret (pc := 18) C hr hlk dX9_when_18 ⟨_, rfl, ?_⟩
    exact ⟨Scr.rf, fun z => absurd z.1 h_5, fun _ => rfl⟩
  · have h_5 := bJ_1.mp h_5
    rw [hnt] at h_5
    obtain ⟨k, hk, rfl⟩ := ix_of h_5.1 h_5.2 (by omega)
    have ek : (nI k).toNatClampNeg = k := nI_clamp (by omega)
    refine V_iload_n (pc := 8) C 2 dX9_when_8 rfl rfl ?_
    refine V_iconst (v := 1) (pc := 9) C dX9_when_9 (by decide) ?_
    refine call_X9_102 (pc := 10) C (c_X9_isWithin (d := d - 1) M _ _) (by omega) (Nat.le_of_ble_eq_true rfl) dX9_when_10 (fun x_10 M_10 h_10 => ?_)
    obtain ⟨e_10, rfl⟩ := h_10
    have e_10 := e_10.symm
    subst e_10
    refine V_if_ne (tgt := 19) (pc := 13) C dX9_when_13 (by decide) (fun h_13 => ?_) (fun h_13 => ?_)
    · have h_13 := bJ_1.mp h_13
      refine V_aload_n (pc := 19) C 0 dX9_when_19 rfl rfl ?_
      refine V_iload_n (pc := 20) C 1 dX9_when_20 rfl rfl ?_
      refine call_X9_192 (pc := 21) C (c2_X9_showAlone (d := d - 1) hG (by omega) M (t := k) (by omega)) (by omega) (wg hG (by decide) (by decide)) (Nat.le_of_ble_eq_true rfl) dX9_when_21 (fun x_21 M_21 h_21 => ?_)
      obtain ⟨rfl, h_t1, h_t0⟩ := h_21
      refine V_if_ne (tgt := 30) (pc := 24) C dX9_when_24 (by decide) (fun h_24 => ?_) (fun h_24 => ?_)
      · have h_24 := bJ_1.mp h_24
        have e9 := h_t1 h_24
        subst e9
        refine V_iconst (v := -1) (pc := 30) C dX9_when_30 (by decide) ?_
        refine Vs_istore_n (lv' := [(0, _), (1, _), (2, _), (3, _)]) (pc := 31) C dX9_when_31 rfl (by decide) rfl rfl ?_
        refine V_iconst (v := -1) (pc := 32) C dX9_when_32 (by decide) ?_
        refine Vs_istore (lv' := [(0, _), (1, _), (2, _), (3, _), (4, _)]) (pc := 33) C dX9_when_33 (by decide) rfl rfl ?_
        refine V_iconst (v := 0) (pc := 35) C dX9_when_35 (by decide) ?_
        refine Vs_istore (lv' := [(0, _), (1, _), (2, _), (3, _), (4, _), (5, _)]) (pc := 36) C dX9_when_36 (by decide) rfl rfl ?_
        refine lp_X9_when C hr hlk hG hd (kAlone M k) (hP.scr (kAlone_scr M k)) _ _ _ 104 0 (-1, -1) (kAlone M k) (by omega) Sc.rf ?_
        intro M' hS
        refine ⟨(kAlone_scr M k).tr hS.scr, fun _ => ⟨fun z => absurd z (by rw [ek]; exact h_24), fun _ => ?_⟩, fun z => absurd ⟨h_5, h_13⟩ z⟩
        rw [ek]
        rfl
      · have h_24 := bJ_0.mp h_24
        have h_b := Classical.not_not.mp h_24
        have e9 := (h_t0 h_b).symm
        subst e9
        refine V_bipush (v := -3) (pc := 27) C dX9_when_27 (by decide) ?_
        refine V_iret (pc := 29) C hr hlk dX9_when_29 ⟨_, rfl, ?_⟩
        exact ⟨Scr.rf, fun _ => ⟨fun _ => rfl, fun z => absurd (by rw [ek]; exact h_b) z⟩, fun z => absurd ⟨h_5, h_13⟩ z⟩
    · have h_13 := bJ_0.mp h_13
      refine V_bipush (v := -2) (pc := 16) C dX9_when_16 (by decide) ?_
      refine V_iret (pc := 18) C hr hlk dX9_when_18 ⟨_, rfl, ?_⟩
      exact ⟨Scr.rf, fun z => absurd z.2 h_13, fun _ => rfl⟩
def kBuyM (M M2 : wS) (v price : Int32) : wS := mset (mset M2 26 0 3 (M.1 26 0 3 ||| v)) 26 0 6 (M.1 26 0 6 + price)
theorem c_X9_buy (hG : 30 ≤ G) (hd : 5 ≤ d) (M : wS) {nb nt r e1 e2 e3 : Nat} (hP : IP M nb nt r e1 e2 e3) (buyer v : Int32) : Ctr l D cy ad G d yX9_buy cX9_buy 4 (some .int) [.ref (ad 0 0), .int buyer, .int v] M (rI fun x M' => ∃ M2, Scr M M2 ∧ ((0 ≤ buyer ∧ buyer < nI nb) ∧ kTied M nt v → (x, M') = if 0 ≤ kPrice (kTieM M nt v) r e1 e2 buyer.toNatClampNeg (M.1 28 0 buyer.toNatClampNeg) 0 then (kPrice (kTieM M nt v) r e1 e2 buyer.toNatClampNeg (M.1 28 0 buyer.toNatClampNeg) 0, kBuyM M M2 v (kPrice (kTieM M nt v) r e1 e2 buyer.toNatClampNeg (M.1 28 0 buyer.toNatClampNeg) 0)) else (-3, M2)) ∧ (¬ ((0 ≤ buyer ∧ buyer < nI nb) ∧ kTied M nt v) → (x, M') = (-2, M2))) := by
  obtain ⟨⟨hnb, hn7⟩, ⟨hnt, ht7⟩, hX, hB, hw⟩ := id hP
  refine Ctr.of (lv0 := [(0, _), (1, _), (2, _)]) (by decide) (Nat.le_of_ble_eq_true rfl) rfl ?_
  intro p e s m args below meth c C hr hlk _
  have C : CX p s m args c cX9_buy 4 "CostsAge" D cy ad G (wA ad G) (Rm d) d 0 0 := C
  refine V_aload_n (pc := 0) C 0 dX9_buy_0 rfl rfl ?_
  refine V_iload_n (pc := 1) C 1 dX9_buy_1 rfl rfl ?_
  refine call_X9_136 (pc := 2) C (c_X9_isBuyer (d := d - 1) hG M _) (by omega) (wg hG (by decide) (by decide)) (Nat.le_of_ble_eq_true rfl) dX9_buy_2 (fun x_2 M_2 h_2 => ?_)
  obtain ⟨e_2, rfl⟩ := h_2
  have e_2 := e_2.symm
  subst e_2
  refine V_if_eq (tgt := 16) (pc := 5) C dX9_buy_5 (by decide) (fun h_5 => ?_) (fun h_5 => ?_)
  · have h_5 := bJ_0.mp h_5
    rw [hnb] at h_5
    refine V_bipush (v := -2) (pc := 16) C dX9_buy_16 (by decide) ?_
    refine V_iret (pc := 18) C hr hlk dX9_buy_18 ⟨_, rfl, ?_⟩
    exact ⟨M, Scr.rf, fun z => absurd z.1 h_5, fun _ => rfl⟩
  · have h_5 := bJ_1.mp h_5
    rw [hnb] at h_5
    obtain ⟨k, hk, rfl⟩ := ix_of h_5.1 h_5.2 (by omega)
    have ek : (nI k).toNatClampNeg = k := nI_clamp (by omega)
    refine V_aload_n (pc := 8) C 0 dX9_buy_8 rfl rfl ?_
    refine V_iload_n (pc := 9) C 2 dX9_buy_9 rfl rfl ?_
    refine call_X9_180 (pc := 10) C (c_X9_tie (d := d - 1) hG (by omega) M hnt ht7 v) (by omega) (wg hG (by decide) (by decide)) (Nat.le_of_ble_eq_true rfl) dX9_buy_10 (fun x_10 M_10 h_10 => ?_)
    obtain ⟨rfl, h_t, h_s⟩ := h_10
    refine V_if_ne (tgt := 19) (pc := 13) C dX9_buy_13 (by decide) (fun h_13 => ?_) (fun h_13 => ?_)
    · have h_13 := bJ_1.mp h_13
      have e9 := h_t h_13
      subst e9
      have hP2 := hP.scr h_s
      refine V_aload_n (pc := 19) C 0 dX9_buy_19 rfl rfl ?_
      refine V_iload_n (pc := 20) C 1 dX9_buy_20 rfl rfl ?_
      refine V_aload_n (pc := 21) C 0 dX9_buy_21 rfl rfl ?_
      refine get_X9_64 (pc := 22) C (wg hG (by decide) (by decide)) dX9_buy_22 ?_
      refine get_X9_122 (pc := 25) C (wg hG (by decide) (by decide)) dX9_buy_25 ?_
      refine V_iload_n (pc := 28) C 1 dX9_buy_28 rfl rfl ?_
      refine V_iald (pc := 29) C (k) rfl (by omega) (Nat.le_of_ble_eq_true rfl) (wg hG (by decide) (by decide)) wF_28 dX9_buy_29 ?_
      refine V_iconst (v := 0) (pc := 30) C dX9_buy_30 (by decide) ?_
      refine call_X9_195 (pc := 31) C (c_X9_priceBy (d := d - 1) hG (by omega) _ hP2.2.2.1 hP2.2.2.2.1 hP2.2.2.2.2 (k := k) (by omega) _ 0 (by decide)) (by omega) (wg hG (by decide) (by decide)) (Nat.le_of_ble_eq_true rfl) dX9_buy_31 (fun x_31 M_31 h_31 => ?_)
      obtain ⟨⟨f_1, e_1⟩, rfl⟩ := h_31
      have hS1 : Sc (kTieM M nt v) M_31 := e_1 ▸ Sc.env
      clear e_1
      rw [h_s.1 28 0 (by decide)]
      have hS2 := h_s.tr hS1.scr
      refine Vs_istore_n (lv' := [(0, _), (1, _), (2, _), (3, _)]) (pc := 34) C dX9_buy_34 rfl (by decide) rfl rfl ?_
      refine V_iload_n (pc := 35) C 3 dX9_buy_35 rfl rfl ?_
      refine V_if_ge (tgt := 42) (pc := 36) C dX9_buy_36 (by decide) (fun h_36 => ?_) (fun h_36 => ?_)
      · refine V_aload_n (pc := 42) C 0 dX9_buy_42 rfl rfl ?_
        refine get_X9_64 (pc := 43) C (wg hG (by decide) (by decide)) dX9_buy_43 ?_
        refine V_dup (pc := 46) C dX9_buy_46 rfl ?_
        refine get_X9_169 (pc := 47) C (wg hG (by decide) (by decide)) dX9_buy_47 ?_
        refine V_iload_n (pc := 50) C 2 dX9_buy_50 rfl rfl ?_
        refine V_ior (pc := 51) C dX9_buy_51 ?_
        refine put_X9_169 (pc := 52) C (wg hG (by decide) (by decide)) dX9_buy_52 ?_
        refine V_aload_n (pc := 55) C 0 dX9_buy_55 rfl rfl ?_
        refine get_X9_64 (pc := 56) C (wg hG (by decide) (by decide)) dX9_buy_56 ?_
        refine V_dup (pc := 59) C dX9_buy_59 rfl ?_
        refine get_X9_198 (pc := 60) C (wg hG (by decide) (by decide)) dX9_buy_60 ?_
        refine V_iload_n (pc := 63) C 3 dX9_buy_63 rfl rfl ?_
        refine V_iadd (pc := 64) C dX9_buy_64 ?_
        refine put_X9_198 (pc := 65) C (wg hG (by decide) (by decide)) dX9_buy_65 ?_
        refine V_iload_n (pc := 68) C 3 dX9_buy_68 rfl rfl ?_
        refine V_iret (pc := 69) C hr hlk dX9_buy_69 ⟨_, rfl, ?_⟩
        refine ⟨M_31, hS2, fun _ => ?_, fun z => absurd ⟨h_5, h_13⟩ z⟩
        rw [ek, if_pos h_36]
        refine Prod.ext rfl ?_
        show mset (mset M_31 26 0 3 _) 26 0 6 _ = _
        rw [kBuyM, mset_at, if_neg (by decide), hS2.1 26 0 (by decide)]
      · refine V_bipush (v := -3) (pc := 39) C dX9_buy_39 (by decide) ?_
        refine V_iret (pc := 41) C hr hlk dX9_buy_41 ⟨_, rfl, ?_⟩
        exact ⟨_, hS2, fun _ => by rw [ek, if_neg h_36], fun z => absurd ⟨h_5, h_13⟩ z⟩
    · have h_13 := bJ_0.mp h_13
      refine V_bipush (v := -2) (pc := 16) C dX9_buy_16 (by decide) ?_
      refine V_iret (pc := 18) C hr hlk dX9_buy_18 ⟨_, rfl, ?_⟩
      exact ⟨_, h_s, fun z => absurd z.2 h_13, fun _ => rfl⟩
end S18
