/-! a year, buying, gains, draws, a clerk's list: the reference -/
theorem year_w (f : Nat → Int32) : ∀ (n i : Nat) (q : Int32 × Int32) (A : Int32), ((q.2 < 0 ∧ A < 0) ∨ (0 ≤ A ∧ q.2 = A)) → (((wRun f i n q).2 < 0 ∧ kLeastF f i n A < 0) ∨ (0 ≤ kLeastF f i n A ∧ (wRun f i n q).2 = kLeastF f i n A)) := by
  intro n
  induction n with
  | zero => intro i q A h; exact h
  | succ n ih =>
    intro i q A h
    unfold wRun kLeastF
    refine ih (i + 1) _ _ ?_
    unfold wStep lstep
    by_cases c : f i < 0
    · rw [if_pos c, if_pos c]; exact h
    · rw [if_neg c, if_neg c]
      rcases h with ⟨h1, h2⟩ | ⟨h1, h2⟩
      · rw [if_pos h1, if_pos h2]
        exact Or.inr ⟨Int32.not_lt.mp c, rfl⟩
      · rw [h2, if_neg (Int32.not_lt.mpr h1), if_neg (Int32.not_lt.mpr h1)]
        by_cases c2 : A ≤ f i
        · rw [if_pos c2, if_pos c2]
          exact Or.inr ⟨h1, h2⟩
        · rw [if_neg c2, if_neg c2]
          exact Or.inr ⟨Int32.not_lt.mp c, rfl⟩
theorem or_bit {x y : Int32} {t : Nat} : ((x ||| y) >>> (nI t &&& 31)) &&& 1 = 0 ↔ ¬ hasB x t ∧ (y >>> (nI t &&& 31)) &&& 1 = 0 := by
  have e : ((x ||| y) >>> (nI t &&& 31)) &&& 1 = ((x >>> (nI t &&& 31)) &&& 1) ||| ((y >>> (nI t &&& 31)) &&& 1) := by
    apply Int32.toBitVec_inj.mp
    simp only [Int32.toBitVec_and, Int32.toBitVec_or, Int32.toBitVec_shiftRight]
    generalize ((nI t).toBitVec &&& Int32.toBitVec 31).smod 32 = w
    apply BitVec.eq_of_getElem_eq
    intro i hi
    simp only [BitVec.getElem_and, BitVec.getElem_or, BitVec.sshiftRight_eq', BitVec.getElem_sshiftRight, BitVec.msb_or, BitVec.getLsbD_or]
    by_cases h1 : w.toNat + i < 32
    · simp only [dif_pos h1]
      simp [Bool.and_or_distrib_right]
    · simp only [dif_neg h1]
      simp [Bool.and_or_distrib_right]
  rw [e]
  unfold hasB
  rcases bit01 x t with h | h <;> rcases bit01 y t with h2 | h2 <;> rw [h, h2] <;> decide
section S61
variable {l : Launch} {D : va_G} {cy : Nat → ClassId} {ad : Nat → Nat → Nat} {G d : Nat}
theorem lp_X10_year {p : Program} {e : Env} {s : State} {m : MethodId} {args : Array Value} {below : List Frame} {meth : Method} {c : Code} (C : CX p s m args c cX10_year 3 "CostsAgeModel" D cy ad G (wA ad G) (Rm d) d 0 0) (hr : meth.sig.returnType = (some .int)) (hlk : meth.locks = false) (hG : 56 ≤ G) (hd : 46 ≤ d) {M0 Ms : wS} {nb nt r e1 e2 e3 : Nat} (hC : rC M0 Ms nb nt r e1 e2 e3) (Qf : Int32 → wS → Prop) : ∀ (n t : Nat) (acc : Int32) (M : wS), t + n = nt → frK 38 Ms M → (∀ M', frK 38 Ms M' → Qf (yRun M0 nb r e1 e2 t n acc) M') → V p l e (Rm d) s m args below meth c 3 D cy ad G (wA ad G) 0 0 (MQ below (wQ D cy ad G (rI Qf)) args s 0 0 (wA ad G)) 4 [(0, .ref (ad 30 0)), (1, .int acc), (2, .int (nI t))] [] M := by
  have hn7 := hC.1.2.1.2
  intro n
  induction n with
  | zero =>
    intro t acc M ht hF hQ
    have hm := (hC.q (hF.q (by decide))).2.1.1.2
    obtain rfl : t = nt := by omega
    refine V_iload_n (pc := 4) C 2 dX10_year_4 rfl rfl ?_
    refine V_aload_n (pc := 5) C 0 dX10_year_5 rfl rfl ?_
    refine get_X10_110 (pc := 6) C (wg hG (by decide) (by decide)) dX10_year_6 ?_
    refine V_icmp_ge (tgt := 47) (pc := 9) C dX10_year_9 (by decide) (fun h_9 => ?_) (fun h_9 => ?_)
    · refine V_iload_n (pc := 47) C 1 dX10_year_47 rfl rfl ?_
      refine V_iret (pc := 48) C hr hlk dX10_year_48 ⟨_, rfl, ?_⟩
      exact hQ M hF
    · rw [hm] at h_9
      exact absurd (nI_le (Nat.le_refl _) (by omega)) h_9
  | succ n ih =>
    intro t acc M ht hF hQ
    have hc := hC.q (hF.q (by decide))
    have hm := hc.2.1.1.2
    have hQ2 : ∀ M', frK 38 Ms M' → Qf (yRun M0 nb r e1 e2 (t + 1) n (@ite _ (hasB (M0.1 26 0 3) t) (Classical.propDecidable _) acc (acc + (if 0 < kInYear (kAlone M0 t) nb r e1 e2 then kInYear (kAlone M0 t) nb r e1 e2 else 0)))) M' := hQ
    clear hQ
    have hy := year_w (fun j => kLeast (kAlone M0 t) nb r e1 e2 (nI j)) 52 0 (-1, -1) (-5) (Or.inl ⟨by decide, by decide⟩)
    rw [show kLeastF (fun j => kLeast (kAlone M0 t) nb r e1 e2 (nI j)) 0 52 (-5) = kInYear (kAlone M0 t) nb r e1 e2 from rfl] at hy
    refine V_iload_n (pc := 4) C 2 dX10_year_4 rfl rfl ?_
    refine V_aload_n (pc := 5) C 0 dX10_year_5 rfl rfl ?_
    refine get_X10_110 (pc := 6) C (wg hG (by decide) (by decide)) dX10_year_6 ?_
    refine V_icmp_ge (tgt := 47) (pc := 9) C dX10_year_9 (by decide) (fun h_9 => ?_) (fun h_9 => ?_)
    · rw [hm] at h_9
      exact absurd h_9 (nI_ge (by omega) (by omega))
    · refine V_aload_n (pc := 12) C 0 dX10_year_12 rfl rfl ?_
      refine get_X10_113 (pc := 13) C (wg hG (by decide) (by decide)) dX10_year_13 ?_
      refine V_iload_n (pc := 16) C 2 dX10_year_16 rfl rfl ?_
      refine V_ishr (pc := 17) C dX10_year_17 ?_
      refine V_iconst (v := 1) (pc := 18) C dX10_year_18 (by decide) ?_
      refine V_iand (pc := 19) C dX10_year_19 ?_
      rw [hc.2.1.2.1.1]
      refine V_if_ne (tgt := 41) (pc := 20) C dX10_year_20 (by decide) (fun h_20 => ?_) (fun h_20 => ?_)
      · have hb : hasB (M0.1 26 0 3) t := h_20
        refine Vs_iinc (v := nI (t + 1)) (lv' := [(0, _), (1, _), (2, _)]) (pc := 41) C 2 dX10_year_41 rfl (by decide) rfl (nI_i1 (t)) rfl ?_
        refine V_goto (tgt := 4) (pc := 44) C dX10_year_44 (by decide) ?_
        exact ih (t + 1) acc M (by omega) hF (fun M' h => by have := hQ2 M' h; rw [if_pos hb] at this; exact this)
      · have hb : ¬ hasB (M0.1 26 0 3) t := fun e => e h_20
        refine V_aload_n (pc := 23) C 0 dX10_year_23 rfl rfl ?_
        refine V_iload_n (pc := 24) C 2 dX10_year_24 rfl rfl ?_
        refine V_bipush (v := 51) (pc := 25) C dX10_year_25 (by decide) ?_
        refine call_X10_309 (pc := 27) C (r_whenLeast (d := d - 1) hG (by omega) hc (t := t) (by omega) (L := 51) (by decide)) (by omega) (wg hG (by decide) (by decide)) (Nat.le_of_ble_eq_true rfl) dX10_year_27 (fun x_27 M_27 h_27 => ?_)
        obtain ⟨f1, f2, f3⟩ := h_27
        have hF2 := hF.tr f1
        generalize wRun (fun j => kLeast (kAlone M0 t) nb r e1 e2 (nI j)) 0 (51 + 1) (-1, -1) = w at f2 f3 hy
        refine V_iconst (v := -1) (pc := 30) C dX10_year_30 (by decide) ?_
        refine V_icmp_eq (tgt := 41) (pc := 31) C dX10_year_31 (by decide) (fun h_31 => ?_) (fun h_31 => ?_)
        · have hlt : ¬ 0 < kInYear (kAlone M0 t) nb r e1 e2 := by
            rcases f3.2 with ⟨a1, a2⟩ | ⟨a1, a2, j, a3, a4⟩
            · rcases hy with ⟨y1, y2⟩ | ⟨y1, y2⟩
              · exact fun e => absurd (Int32.lt_trans e y2) (by decide)
              · exact absurd y1 (Int32.not_le.mpr (by rw [← y2]; exact a1))
            · exact absurd (a4.symm.trans (f2.symm.trans h_31)) (nIm1 a3)
          refine Vs_iinc (v := nI (t + 1)) (lv' := [(0, _), (1, _), (2, _)]) (pc := 41) C 2 dX10_year_41 rfl (by decide) rfl (nI_i1 (t)) rfl ?_
          refine V_goto (tgt := 4) (pc := 44) C dX10_year_44 (by decide) ?_
          refine ih (t + 1) acc M_27 (by omega) hF2 (fun M' h => ?_)
          have := hQ2 M' h
          rw [if_neg hb, if_neg hlt, Int32.add_zero] at this
          exact this
        · have hle : M_27.1 30 0 38 = (if 0 < kInYear (kAlone M0 t) nb r e1 e2 then kInYear (kAlone M0 t) nb r e1 e2 else 0) := by
            rcases f3.2 with ⟨a1, a2⟩ | ⟨a1, a2, j, a3, a4⟩
            · exact absurd (f2.trans (by rw [a2])) h_31
            · rcases hy with ⟨y1, y2⟩ | ⟨y1, y2⟩
              · exact absurd a1 (Int32.not_le.mpr y1)
              · rw [a2, y2]
                by_cases z : 0 < kInYear (kAlone M0 t) nb r e1 e2
                · rw [if_pos z]
                · rw [if_neg z]
                  exact Int32.le_antisymm (Int32.not_lt.mp z) y1
          refine V_iload_n (pc := 34) C 1 dX10_year_34 rfl rfl ?_
          refine V_aload_n (pc := 35) C 0 dX10_year_35 rfl rfl ?_
          refine get_X10_306 (pc := 36) C (wg hG (by decide) (by decide)) dX10_year_36 ?_
          refine V_iadd (pc := 39) C dX10_year_39 ?_
          refine Vs_istore_n (lv' := [(0, _), (1, _), (2, _)]) (pc := 40) C dX10_year_40 rfl (by decide) rfl rfl ?_
          refine Vs_iinc (v := nI (t + 1)) (lv' := [(0, _), (1, _), (2, _)]) (pc := 41) C 2 dX10_year_41 rfl (by decide) rfl (nI_i1 (t)) rfl ?_
          refine V_goto (tgt := 4) (pc := 44) C dX10_year_44 (by decide) ?_
          rw [hle]
          exact ih (t + 1) _ M_27 (by omega) hF2 (fun M' h => by have := hQ2 M' h; rw [if_neg hb] at this; exact this)
theorem r_year (hG : 56 ≤ G) (hd : 46 ≤ d) {M0 M : wS} {nb nt r e1 e2 e3 : Nat} (hC : rC M0 M nb nt r e1 e2 e3) : Ctr l D cy ad G d yX10_year cX10_year 3 (some .int) [.ref (ad 30 0)] M (rI fun x M' => qF M M' ∧ x = yRun M0 nb r e1 e2 0 nt 0) := by
  refine Ctr.of (lv0 := [(0, _)]) (by decide) (Nat.le_of_ble_eq_true rfl) rfl ?_
  intro p e s m args below meth c C hr hlk _
  have C : CX p s m args c cX10_year 3 "CostsAgeModel" D cy ad G (wA ad G) (Rm d) d 0 0 := C
  refine V_iconst (v := 0) (pc := 0) C dX10_year_0 (by decide) ?_
  refine Vs_istore_n (lv' := [(0, _), (1, _)]) (pc := 1) C dX10_year_1 rfl (by decide) rfl rfl ?_
  refine V_iconst (v := 0) (pc := 2) C dX10_year_2 (by decide) ?_
  refine Vs_istore_n (lv' := [(0, _), (1, _), (2, _)]) (pc := 3) C dX10_year_3 rfl (by decide) rfl rfl ?_
  exact lp_X10_year C hr hlk hG hd hC _ nt 0 0 M (by omega) frK.rf (fun M' h => ⟨h.q (by decide), rfl⟩)
theorem r_buy (hG : 56 ≤ G) (hd : 43 ≤ d) {M0 M : wS} {nb nt r e1 e2 e3 O : Nat} (hC : rC M0 M nb nt r e1 e2 e3) (hU : uO M0 nt O) (buyer v : Int32) : Ctr l D cy ad G d yX10_buy cX10_buy 4 (some .int) [.ref (ad 30 0), .int buyer, .int v] M (rI fun x M' => ∃ M2, qF M M2 ∧ ((0 ≤ buyer ∧ buyer < nI nb) ∧ kTied M0 nt v → (x, M') = if 0 ≤ kPrice (kTieM M0 nt v) r e1 e2 buyer.toNatClampNeg (M0.1 28 0 buyer.toNatClampNeg) 0 then (kPrice (kTieM M0 nt v) r e1 e2 buyer.toNatClampNeg (M0.1 28 0 buyer.toNatClampNeg) 0, mset (mset M2 30 0 17 (M0.1 26 0 3 ||| v)) 30 0 20 (M.1 30 0 20 + kPrice (kTieM M0 nt v) r e1 e2 buyer.toNatClampNeg (M0.1 28 0 buyer.toNatClampNeg) 0)) else (-3, M2)) ∧ (¬ ((0 ≤ buyer ∧ buyer < nI nb) ∧ kTied M0 nt v) → (x, M') = (-2, M2))) := by
  have hnb := hC.1.1
  refine Ctr.of (lv0 := [(0, _), (1, _), (2, _)]) (by decide) (Nat.le_of_ble_eq_true rfl) rfl ?_
  intro p e s m args below meth c C hr hlk _
  have C : CX p s m args c cX10_buy 4 "CostsAgeModel" D cy ad G (wA ad G) (Rm d) d 0 0 := C
  refine V_aload_n (pc := 0) C 0 dX10_buy_0 rfl rfl ?_
  refine V_iload_n (pc := 1) C 1 dX10_buy_1 rfl rfl ?_
  refine call_X10_132 (pc := 2) C (c_X10_isBuyer (d := d - 1) hG (by omega) M hC.2.1.1.1 hnb.2 buyer) (by omega) (wg hG (by decide) (by decide)) (Nat.le_of_ble_eq_true rfl) dX10_buy_2 (fun x_2 M_2 h_2 => ?_)
  obtain ⟨e_2, rfl⟩ := h_2
  have e_2 := e_2.symm
  subst e_2
  refine V_if_eq (tgt := 16) (pc := 5) C dX10_buy_5 (by decide) (fun h_5 => ?_) (fun h_5 => ?_)
  · have h_5 := bJ_0.mp h_5
    refine V_bipush (v := -2) (pc := 16) C dX10_buy_16 (by decide) ?_
    refine V_iret (pc := 18) C hr hlk dX10_buy_18 ⟨_, rfl, ?_⟩
    first | exact ⟨M, qF.rf, fun e => absurd e.1 h_5, fun _ => rfl⟩ | exact ⟨M, qF.rf, fun e => absurd e.2 h_13, fun _ => rfl⟩
  · have h_5 := bJ_1.mp h_5
    refine V_aload_n (pc := 8) C 0 dX10_buy_8 rfl rfl ?_
    refine V_iload_n (pc := 9) C 2 dX10_buy_9 rfl rfl ?_
    refine call_X10_294 (pc := 10) C (r_mayBeTied (d := d - 1) hG (by omega) hC hU v) (by omega) (wg hG (by decide) (by decide)) (Nat.le_of_ble_eq_true rfl) dX10_buy_10 (fun x_10 M_10 h_10 => ?_)
    obtain ⟨e_10, rfl⟩ := h_10
    have e_10 := e_10.symm
    subst e_10
    refine V_if_ne (tgt := 19) (pc := 13) C dX10_buy_13 (by decide) (fun h_13 => ?_) (fun h_13 => ?_)
    · have h_13 := bJ_1.mp h_13
      obtain ⟨k, hk, rfl⟩ := ix_of h_5.1 h_5.2 (by omega)
      have hsh := shw_tie hC.1.2.1.2 (kTied_cnt hC.1.2.1.2 hU h_13)
      have hNP := hsh.IP hC.1
      have hrg := kPrice_range hNP.2.2.2.1 hNP.2.2.2.2 (k := k) (by omega) r e1 e2 (M0.1 28 0 k) 0 (by decide)
      rw [nI_clamp (by omega)]
      refine V_aload_n (pc := 19) C 0 dX10_buy_19 rfl rfl ?_
      refine V_iload_n (pc := 20) C 1 dX10_buy_20 rfl rfl ?_
      refine V_iload_n (pc := 21) C 2 dX10_buy_21 rfl rfl ?_
      refine V_iconst (v := 0) (pc := 22) C dX10_buy_22 (by decide) ?_
      refine call_X10_285 (pc := 23) C (r_taking (d := d - 1) hG (by omega) hC hsh (k := k) (by omega) (by decide)) (by omega) (wg hG (by decide) (by decide)) (Nat.le_of_ble_eq_true rfl) dX10_buy_23 (fun x_23 M_23 h_23 => ?_)
      obtain ⟨f1, f2, f3⟩ := h_23
      rw [← f3] at hrg ⊢
      have h17 : M_23.1 30 0 17 = M0.1 26 0 3 := (hC.q (f1.q (by decide))).2.1.2.1.1
      have h20 : ∀ y, (mset M_23 30 0 17 y).1 30 0 20 = M.1 30 0 20 := fun y => by rw [mset_at, if_neg (by omega)]; exact f1.2 20 (by omega)
      refine Vs_istore_n (lv' := [(0, _), (1, _), (2, _), (3, _)]) (pc := 26) C dX10_buy_26 rfl (by decide) rfl rfl ?_
      refine V_iload_n (pc := 27) C 3 dX10_buy_27 rfl rfl ?_
      refine V_bipush (v := -5) (pc := 28) C dX10_buy_28 (by decide) ?_
      refine V_icmp_ne (tgt := 36) (pc := 30) C dX10_buy_30 (by decide) (fun h_30 => ?_) (fun h_30 => ?_)
      · refine V_aload_n (pc := 36) C 0 dX10_buy_36 rfl rfl ?_
        refine V_dup (pc := 37) C dX10_buy_37 rfl ?_
        refine get_X10_113 (pc := 38) C (wg hG (by decide) (by decide)) dX10_buy_38 ?_
        refine V_iload_n (pc := 41) C 2 dX10_buy_41 rfl rfl ?_
        refine V_ior (pc := 42) C dX10_buy_42 ?_
        refine put_X10_113 (pc := 43) C (wg hG (by decide) (by decide)) dX10_buy_43 ?_
        rw [h17]
        refine V_aload_n (pc := 46) C 0 dX10_buy_46 rfl rfl ?_
        refine V_dup (pc := 47) C dX10_buy_47 rfl ?_
        refine get_X10_312 (pc := 48) C (wg hG (by decide) (by decide)) dX10_buy_48 ?_
        refine V_iload_n (pc := 51) C 3 dX10_buy_51 rfl rfl ?_
        refine V_iadd (pc := 52) C dX10_buy_52 ?_
        refine put_X10_312 (pc := 53) C (wg hG (by decide) (by decide)) dX10_buy_53 ?_
        rw [h20]
        refine V_iload_n (pc := 56) C 3 dX10_buy_56 rfl rfl ?_
        refine V_iret (pc := 57) C hr hlk dX10_buy_57 ⟨_, rfl, ?_⟩
        exact ⟨M_23, f1.q (by decide), fun _ => by rw [if_pos (hrg.resolve_left h_30).1], fun e => absurd ⟨h_5, h_13⟩ e⟩
      · refine V_bipush (v := -3) (pc := 33) C dX10_buy_33 (by decide) ?_
        refine V_iret (pc := 35) C hr hlk dX10_buy_35 ⟨_, rfl, ?_⟩
        exact ⟨M_23, f1.q (by decide), fun _ => by rw [if_neg (by rw [h_30]; decide)], fun e => absurd ⟨h_5, h_13⟩ e⟩
    · have h_13 := bJ_0.mp h_13
      refine V_bipush (v := -2) (pc := 16) C dX10_buy_16 (by decide) ?_
      refine V_iret (pc := 18) C hr hlk dX10_buy_18 ⟨_, rfl, ?_⟩
      first | exact ⟨M, qF.rf, fun e => absurd e.1 h_5, fun _ => rfl⟩ | exact ⟨M, qF.rf, fun e => absurd e.2 h_13, fun _ => rfl⟩
end S61
