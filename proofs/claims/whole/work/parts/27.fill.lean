/-- the memory but for some groups -/
def Fr (L : List Nat) (M M' : wS) : Prop := (∀ g i, g ∉ L → M'.1 g i = M.1 g i) ∧ M'.2 = M.2
theorem Fr.rf {L : List Nat} {M : wS} : Fr L M M := ⟨fun _ _ _ => rfl, rfl⟩
theorem Fr.tr {L : List Nat} {M M1 M2 : wS} (h : Fr L M M1) (h2 : Fr L M1 M2) : Fr L M M2 := ⟨fun g i a => (h2.1 g i a).trans (h.1 g i a), h2.2.trans h.2⟩
theorem Fr.sub {L L' : List Nat} {M M' : wS} (h : Fr L M M') (hL : ∀ g ∈ L, g ∈ L') : Fr L' M M' := ⟨fun g i a => h.1 g i (fun z => a (hL g z)), h.2⟩
theorem St.fr {M M' : wS} (h : St M M') : Fr [13, 14, 15] M M' := ⟨fun g i a => h.1 g i (fun e => a (by simp [e])) (fun e => a (by simp [e])) (fun e => a (by simp [e])), h.2⟩
theorem Fr.scr {L : List Nat} {M M' : wS} (h : Fr L M M') (h1 : ∀ g ∈ L, g ∈ [13, 14, 15, 17, 18, 19, 20, 21, 23, 24, 25]) (h2 : 18 ∉ L ∧ 19 ∉ L ∧ 20 ∉ L) : Scr M M' := ⟨fun g i a => h.1 g i (fun z => a (h1 g z)), h.2, by rw [h.1 18 0 h2.1], by rw [h.1 19 0 h2.2.1], by rw [h.1 20 0 h2.2.2]⟩
noncomputable def kFc (M : wS) (r e1 e2 b : Nat) (fee : Int32) (t : Nat) : Int32 := @ite _ (hasB (M.1 26 0 3) t) (Classical.propDecidable _) (-5) (kCost (kAlone M t) r e1 e2 b fee 0)
theorem kFc_scr {M M' : wS} (h : Scr M M') (r e1 e2 b : Nat) (fee : Int32) (t : Nat) : kFc M' r e1 e2 b fee t = kFc M r e1 e2 b fee t := by
  unfold kFc
  rw [kCost_alone h, h.1 26 0 (by decide)]
theorem mul7 (b t : Nat) : nI b * 7 + nI t = nI (7 * b + t) := by
  rw [show (7 : Int32) = nI 7 from by decide, pk_mul, nI_add, Nat.mul_comm]
section S27
variable {l : Launch} {D : va_G} {cy : Nat → ClassId} {ad : Nat → Nat → Nat} {G d : Nat}
theorem lp_X9_fillCostsOf {p : Program} {e : Env} {s : State} {m : MethodId} {args : Array Value} {below : List Frame} {meth : Method} {c : Code} (C : CX p s m args c cX9_fillCostsOf 4 "CostsAge" D cy ad G (wA ad G) (Rm d) d 0 0) (hr : meth.sig.returnType = none) (hlk : meth.locks = false) (hG : 30 ≤ G) (hd : 5 ≤ d) (M : wS) {nb nt r e1 e2 e3 b : Nat} (hP : IP M nb nt r e1 e2 e3) (hb : b < 7) (fee : Int32) (Qf : wS → Prop) (hq : ∀ M', Fr [13, 14, 15, 23] M M' → (∀ j, M'.1 23 0 j = if 7 * b ≤ j ∧ j < 7 * b + nt then kFc M r e1 e2 b fee (j - 7 * b) else M.1 23 0 j) → Qf M') : ∀ (n t : Nat) (M1 : wS), t + n = nt → Fr [13, 14, 15, 23] M M1 → (∀ j, M1.1 23 0 j = if 7 * b ≤ j ∧ j < 7 * b + t then kFc M r e1 e2 b fee (j - 7 * b) else M.1 23 0 j) → V p l e (Rm d) s m args below meth c 4 D cy ad G (wA ad G) 0 0 (MQ below (wQ D cy ad G (rV Qf)) args s 0 0 (wA ad G)) 2 [(0, .ref (ad 0 0)), (1, .int (nI b)), (2, .int fee), (3, .int (nI t))] [] M1 := by
  obtain ⟨-, ⟨hnt, ht7⟩, -⟩ := id hP
  intro n
  induction n with
  | zero =>
    intro t M1 ht hF hA
    obtain rfl : t = nt := by omega
    refine V_iload_n (pc := 2) C 3 dX9_fillCostsOf_2 rfl rfl ?_
    refine V_aload_n (pc := 3) C 0 dX9_fillCostsOf_3 rfl rfl ?_
    refine get_X9_124 (pc := 4) C (wg hG (by decide) (by decide)) dX9_fillCostsOf_4 ?_
    refine V_icmp_ge (tgt := 50) (pc := 7) C dX9_fillCostsOf_7 (by decide) (fun h_7 => ?_) (fun h_7 => ?_)
    · refine V_vret (pc := 50) C hr hlk dX9_fillCostsOf_50 ⟨rfl, ?_⟩
      exact hq M1 hF hA
    · rw [hF.1 0 0 (by decide), hnt] at h_7
      exact absurd (nI_le (by omega) (by omega)) h_7
  | succ n ih =>
    intro t M1 ht hF hA
    have hS := hF.scr (by decide) (by decide)
    have hP1 := hP.scr hS
    have step : ∀ (M3 : wS) (w : Int32), Fr [13, 14, 15, 23] M1 M3 → M3.1 23 0 = M1.1 23 0 → w = kFc M r e1 e2 b fee t → Fr [13, 14, 15, 23] M (mset M3 23 0 (7 * b + t) w) ∧ (∀ j, (mset M3 23 0 (7 * b + t) w).1 23 0 j = if 7 * b ≤ j ∧ j < 7 * b + (t + 1) then kFc M r e1 e2 b fee (j - 7 * b) else M.1 23 0 j) := by
      intro M3 w h3 h4 hw
      refine ⟨hF.tr (h3.tr ⟨fun g i hg => ?_, rfl⟩), fun j => ?_⟩
      · funext k
        rw [mset_at, if_neg (fun z => hg (by simp [z.1]))]
      · rw [mset_at]
        by_cases e : j = 7 * b + t
        · rw [if_pos ⟨rfl, rfl, e⟩, if_pos (by omega), hw, e, Nat.add_sub_cancel_left]
        · rw [if_neg (fun z => e z.2.2), h4, hA j]
          by_cases e2 : 7 * b ≤ j ∧ j < 7 * b + t
          · rw [if_pos e2, if_pos (by omega)]
          · rw [if_neg e2, if_neg (by omega)]
    refine V_iload_n (pc := 2) C 3 dX9_fillCostsOf_2 rfl rfl ?_
    refine V_aload_n (pc := 3) C 0 dX9_fillCostsOf_3 rfl rfl ?_
    refine get_X9_124 (pc := 4) C (wg hG (by decide) (by decide)) dX9_fillCostsOf_4 ?_
    refine V_icmp_ge (tgt := 50) (pc := 7) C dX9_fillCostsOf_7 (by decide) (fun h_7 => ?_) (fun h_7 => ?_)
    · rw [hF.1 0 0 (by decide), hnt] at h_7
      exact absurd h_7 (nI_ge (by omega) (by omega))
    · refine V_aload_n (pc := 10) C 0 dX9_fillCostsOf_10 rfl rfl ?_
      refine get_X9_57 (pc := 11) C (wg hG (by decide) (by decide)) dX9_fillCostsOf_11 ?_
      refine get_X9_279 (pc := 14) C (wg hG (by decide) (by decide)) dX9_fillCostsOf_14 ?_
      refine V_iload_n (pc := 17) C 1 dX9_fillCostsOf_17 rfl rfl ?_
      refine V_bipush (v := 7) (pc := 18) C dX9_fillCostsOf_18 (by decide) ?_
      refine V_imul (pc := 20) C dX9_fillCostsOf_20 ?_
      refine V_iload_n (pc := 21) C 3 dX9_fillCostsOf_21 rfl rfl ?_
      refine V_iadd (pc := 22) C dX9_fillCostsOf_22 ?_
      refine V_aload_n (pc := 23) C 0 dX9_fillCostsOf_23 rfl rfl ?_
      refine V_iload_n (pc := 24) C 3 dX9_fillCostsOf_24 rfl rfl ?_
      refine call_X9_192 (pc := 25) C (c2_X9_showAlone (d := d - 1) hG (by omega) M1 (t := t) (by omega)) (by omega) (wg hG (by decide) (by decide)) (Nat.le_of_ble_eq_true rfl) dX9_fillCostsOf_25 (fun x_25 M_25 h_25 => ?_)
      obtain ⟨rfl, h_t1, h_t0⟩ := h_25
      refine V_if_eq (tgt := 41) (pc := 28) C dX9_fillCostsOf_28 (by decide) (fun h_28 => ?_) (fun h_28 => ?_)
      · have h_28 := bJ_0.mp h_28
        have h_b := Classical.not_not.mp h_28
        have e9 := (h_t0 h_b).symm
        subst e9
        rw [hS.1 26 0 (by decide)] at h_b
        refine V_bipush (v := -5) (pc := 41) C dX9_fillCostsOf_41 (by decide) ?_
        refine V_iast (pc := 43) C (7 * b + t) (mul7 b t) (by omega) (Nat.le_of_ble_eq_true rfl) (wg hG (by decide) (by decide)) (fun _ => wF_23) dX9_fillCostsOf_43 ?_
        refine Vs_iinc (v := nI (t + 1)) (lv' := [(0, _), (1, _), (2, _), (3, _)]) (pc := 44) C 3 dX9_fillCostsOf_44 rfl (by decide) rfl (nI_i1 (t)) rfl ?_
        refine V_goto (tgt := 2) (pc := 47) C dX9_fillCostsOf_47 (by decide) ?_
        have hw := step M1 (-5) Fr.rf rfl (if_pos h_b).symm
        exact ih (t + 1) _ (by omega) hw.1 hw.2
      · have h_28 := bJ_1.mp h_28
        have e9 := h_t1 h_28
        subst e9
        rw [hS.1 26 0 (by decide)] at h_28
        have hP2 := hP1.scr (kAlone_scr M1 t)
        refine V_aload_n (pc := 31) C 0 dX9_fillCostsOf_31 rfl rfl ?_
        refine V_iload_n (pc := 32) C 1 dX9_fillCostsOf_32 rfl rfl ?_
        refine V_iload_n (pc := 33) C 2 dX9_fillCostsOf_33 rfl rfl ?_
        refine V_iconst (v := 0) (pc := 34) C dX9_fillCostsOf_34 (by decide) ?_
        refine call_X9_183 (pc := 35) C (c2_X9_costBy (d := d - 1) hG (by omega) (kAlone M1 t) hP2.2.2.1 hP2.2.2.2.1 hP2.2.2.2.2 (k := b) (by omega) fee 0 (by decide)) (by omega) (wg hG (by decide) (by decide)) (Nat.le_of_ble_eq_true rfl) dX9_fillCostsOf_35 (fun x_35 M_35 h_35 => ?_)
        obtain ⟨hS1, rfl⟩ := h_35
        rw [kCost_alone hS]
        refine V_goto (tgt := 43) (pc := 38) C dX9_fillCostsOf_38 (by decide) ?_
        refine V_iast (pc := 43) C (7 * b + t) (mul7 b t) (by omega) (Nat.le_of_ble_eq_true rfl) (wg hG (by decide) (by decide)) (fun _ => wF_23) dX9_fillCostsOf_43 ?_
        refine Vs_iinc (v := nI (t + 1)) (lv' := [(0, _), (1, _), (2, _), (3, _)]) (pc := 44) C 3 dX9_fillCostsOf_44 rfl (by decide) rfl (nI_i1 (t)) rfl ?_
        refine V_goto (tgt := 2) (pc := 47) C dX9_fillCostsOf_47 (by decide) ?_
        have h3 : St M1 M_35 := (kShow_st M1 (M1.1 6 t 0) (M1.1 6 t 1) (M1.1 29 0 t)).tr hS1.st
        have hw := step M_35 (kCost (kAlone M t) r e1 e2 b fee 0) (h3.fr.sub (by decide)) (h3.1 23 0 (by decide) (by decide) (by decide)) (if_neg h_28).symm
        exact ih (t + 1) _ (by omega) hw.1 hw.2
theorem c_X9_fillCostsOf (hG : 30 ≤ G) (hd : 5 ≤ d) (M : wS) {nb nt r e1 e2 e3 b : Nat} (hP : IP M nb nt r e1 e2 e3) (hb : b < 7) (fee : Int32) : Ctr l D cy ad G d yX9_fillCostsOf cX9_fillCostsOf 4 none [.ref (ad 0 0), .int (nI b), .int fee] M (rV fun M' => Fr [13, 14, 15, 23] M M' ∧ ∀ j, M'.1 23 0 j = if 7 * b ≤ j ∧ j < 7 * b + nt then kFc M r e1 e2 b fee (j - 7 * b) else M.1 23 0 j) := by
  refine Ctr.of (lv0 := [(0, _), (1, _), (2, _)]) (by decide) (Nat.le_of_ble_eq_true rfl) rfl ?_
  intro p e s m args below meth c C hr hlk _
  have C : CX p s m args c cX9_fillCostsOf 4 "CostsAge" D cy ad G (wA ad G) (Rm d) d 0 0 := C
  refine V_iconst (v := 0) (pc := 0) C dX9_fillCostsOf_0 (by decide) ?_
  refine Vs_istore_n (lv' := [(0, _), (1, _), (2, _), (3, _)]) (pc := 1) C dX9_fillCostsOf_1 rfl (by decide) rfl rfl ?_
  exact lp_X9_fillCostsOf C hr hlk hG hd M hP hb fee _ (fun M' h1 h2 => ⟨h1, h2⟩) nt 0 M (by omega) Fr.rf (fun j => by rw [if_neg (by omega)])
theorem lp_X9_fillCosts {p : Program} {e : Env} {s : State} {m : MethodId} {args : Array Value} {below : List Frame} {meth : Method} {c : Code} (C : CX p s m args c cX9_fillCosts 2 "CostsAge" D cy ad G (wA ad G) (Rm d) d 0 0) (hr : meth.sig.returnType = none) (hlk : meth.locks = false) (hG : 30 ≤ G) (hd : 6 ≤ d) (M : wS) {nb nt r e1 e2 e3 : Nat} (hP : IP M nb nt r e1 e2 e3) (Qf : wS → Prop) (hq : ∀ M', Fr [13, 14, 15, 23] M M' → (∀ b t, b < nb → t < nt → M'.1 23 0 (7 * b + t) = kFc M r e1 e2 b (M.1 28 0 b) t) → Qf M') : ∀ (n b : Nat) (M1 : wS), b + n = nb → Fr [13, 14, 15, 23] M M1 → (∀ b' t, b' < b → t < nt → M1.1 23 0 (7 * b' + t) = kFc M r e1 e2 b' (M.1 28 0 b') t) → V p l e (Rm d) s m args below meth c 2 D cy ad G (wA ad G) 0 0 (MQ below (wQ D cy ad G (rV Qf)) args s 0 0 (wA ad G)) 2 [(0, .ref (ad 0 0)), (1, .int (nI b))] [] M1 := by
  obtain ⟨⟨hnb, hn7⟩, ⟨hnt, ht7⟩, -⟩ := id hP
  intro n
  induction n with
  | zero =>
    intro b M1 hb hF hA
    obtain rfl : b = nb := by omega
    refine V_iload_n (pc := 2) C 1 dX9_fillCosts_2 rfl rfl ?_
    refine V_aload_n (pc := 3) C 0 dX9_fillCosts_3 rfl rfl ?_
    refine get_X9_106 (pc := 4) C (wg hG (by decide) (by decide)) dX9_fillCosts_4 ?_
    refine V_icmp_ge (tgt := 30) (pc := 7) C dX9_fillCosts_7 (by decide) (fun h_7 => ?_) (fun h_7 => ?_)
    · refine V_vret (pc := 30) C hr hlk dX9_fillCosts_30 ⟨rfl, ?_⟩
      exact hq M1 hF hA
    · rw [hF.1 0 0 (by decide), hnb] at h_7
      exact absurd (nI_le (by omega) (by omega)) h_7
  | succ n ih =>
    intro b M1 hb hF hA
    have hS := hF.scr (by decide) (by decide)
    refine V_iload_n (pc := 2) C 1 dX9_fillCosts_2 rfl rfl ?_
    refine V_aload_n (pc := 3) C 0 dX9_fillCosts_3 rfl rfl ?_
    refine get_X9_106 (pc := 4) C (wg hG (by decide) (by decide)) dX9_fillCosts_4 ?_
    refine V_icmp_ge (tgt := 30) (pc := 7) C dX9_fillCosts_7 (by decide) (fun h_7 => ?_) (fun h_7 => ?_)
    · rw [hF.1 0 0 (by decide), hnb] at h_7
      exact absurd h_7 (nI_ge (by omega) (by omega))
    · refine V_aload_n (pc := 10) C 0 dX9_fillCosts_10 rfl rfl ?_
      refine V_iload_n (pc := 11) C 1 dX9_fillCosts_11 rfl rfl ?_
      refine V_aload_n (pc := 12) C 0 dX9_fillCosts_12 rfl rfl ?_
      refine get_X9_64 (pc := 13) C (wg hG (by decide) (by decide)) dX9_fillCosts_13 ?_
      refine get_X9_122 (pc := 16) C (wg hG (by decide) (by decide)) dX9_fillCosts_16 ?_
      refine V_iload_n (pc := 19) C 1 dX9_fillCosts_19 rfl rfl ?_
      refine V_iald (pc := 20) C (b) rfl (by omega) (Nat.le_of_ble_eq_true rfl) (wg hG (by decide) (by decide)) wF_28 dX9_fillCosts_20 ?_
      refine call_X9_305 (pc := 21) C (c_X9_fillCostsOf (d := d - 1) hG (by omega) M1 (hP.scr hS) (b := b) (by omega) _) (by omega) (wg hG (by decide) (by decide)) (Nat.le_of_ble_eq_true rfl) dX9_fillCosts_21 (fun M_21 h_21 => ?_)
      obtain ⟨hF1, hA1⟩ := h_21
      refine Vs_iinc (v := nI (b + 1)) (lv' := [(0, _), (1, _)]) (pc := 24) C 1 dX9_fillCosts_24 rfl (by decide) rfl (nI_i1 (b)) rfl ?_
      refine V_goto (tgt := 2) (pc := 27) C dX9_fillCosts_27 (by decide) ?_
      refine ih (b + 1) _ (by omega) (hF.tr hF1) (fun b' t q1 q2 => ?_)
      rw [hA1]
      by_cases e : b' = b
      · subst e
        rw [if_pos (by omega), Nat.add_sub_cancel_left, kFc_scr hS, hF.1 28 0 (by decide)]
      · rw [if_neg (by omega)]
        exact hA b' t (by omega) q2
theorem c_X9_fillCosts (hG : 30 ≤ G) (hd : 6 ≤ d) (M : wS) {nb nt r e1 e2 e3 : Nat} (hP : IP M nb nt r e1 e2 e3) : Ctr l D cy ad G d yX9_fillCosts cX9_fillCosts 2 none [.ref (ad 0 0)] M (rV fun M' => Fr [13, 14, 15, 23] M M' ∧ ∀ b t, b < nb → t < nt → M'.1 23 0 (7 * b + t) = kFc M r e1 e2 b (M.1 28 0 b) t) := by
  refine Ctr.of (lv0 := [(0, _)]) (by decide) (Nat.le_of_ble_eq_true rfl) rfl ?_
  intro p e s m args below meth c C hr hlk _
  have C : CX p s m args c cX9_fillCosts 2 "CostsAge" D cy ad G (wA ad G) (Rm d) d 0 0 := C
  refine V_iconst (v := 0) (pc := 0) C dX9_fillCosts_0 (by decide) ?_
  refine Vs_istore_n (lv' := [(0, _), (1, _)]) (pc := 1) C dX9_fillCosts_1 rfl (by decide) rfl rfl ?_
  exact lp_X9_fillCosts C hr hlk hG hd M hP _ (fun M' h1 h2 => ⟨h1, h2⟩) nb 0 M (by omega) Fr.rf (fun b' t q1 _ => by omega)
end S27
