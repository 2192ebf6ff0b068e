section S72
variable {l : Launch} {D : va_G} {cy : Nat → ClassId} {ad : Nat → Nat → Nat} {G d : Nat}
theorem lr_X10_rest {p : Program} {e : Env} {s : State} {m : MethodId} {args : Array Value} {below : List Frame} {meth : Method} {c : Code} (C : CX p s m args c cX10_rest 10 "CostsAgeModel" D cy ad G (wA ad G) (Rm d) d 0 0) (hr : meth.sig.returnType = (some .int)) (hlk : meth.locks = false) (hG : 56 ≤ G) (hd : 46 ≤ d) {M0 : wS} {nb nt r e1 e2 e3 : Nat} (hP : IP M0 nb nt r e1 e2 e3) (by_ : Int32) (Qf : Int32 → wS → Prop) : ∀ (n rd : Nat) (q : (Nat → Int32) × Bool) (Ms M : wS), rd + n = 4 → frW nb Ms M → fC M0 M nb nt r e1 e2 e3 q.1 → okF q.1 → (∀ M' A', A' = sRest M0 nb nt r e1 e2 n q → frW nb Ms M' → M'.1 48 0 = M.1 48 0 → fC M0 M' nb nt r e1 e2 e3 A' → V p l e (Rm d) s m args below meth c 10 D cy ad G (wA ad G) 0 0 (MQ below (wQ D cy ad G (rI Qf)) args s 0 0 (wA ad G)) 173 [(0, .ref (ad 30 0)), (1, .int by_)] [] M') → V p l e (Rm d) s m args below meth c 10 D cy ad G (wA ad G) 0 0 (MQ below (wQ D cy ad G (rI Qf)) args s 0 0 (wA ad G)) 43 [(0, .ref (ad 30 0)), (1, .int by_), (2, .int (bI (q.2 = true))), (3, .int (nI rd))] [] M := by
  intro n
  induction n with
  | zero =>
    intro rd q Ms M hr4 hF hC hA hQ
    obtain rfl : rd = 4 := by omega
    refine V_iload_n (pc := 43) C 3 dX10_rest_43 rfl rfl ?_
    refine V_iconst (v := 4) (pc := 44) C dX10_rest_44 (by decide) ?_
    refine V_icmp_ge (tgt := 173) (pc := 45) C dX10_rest_45 (by decide) (fun h_45 => ?_) (fun h_45 => ?_)
    · refine V_loc (lv' := [(0, _), (1, _)]) [0, 1] rfl ?_
      exact hQ M q.1 rfl hF rfl hC
    · exact absurd (nI_le (a := 4) (b := 4) (Nat.le_refl _) (by decide)) h_45
  | succ n ih =>
    intro rd q Ms M hr4 hF hC hA hQ
    have nxt : ∀ (M' : wS) (q' : (Nat → Int32) × Bool), frW nb Ms M' → M'.1 48 0 = M.1 48 0 → fC M0 M' nb nt r e1 e2 e3 q'.1 → okF q'.1 → (∀ M2 A', A' = sRest M0 nb nt r e1 e2 n q' → frW nb Ms M2 → M2.1 48 0 = M.1 48 0 → fC M0 M2 nb nt r e1 e2 e3 A' → V p l e (Rm d) s m args below meth c 10 D cy ad G (wA ad G) 0 0 (MQ below (wQ D cy ad G (rI Qf)) args s 0 0 (wA ad G)) 173 [(0, .ref (ad 30 0)), (1, .int by_)] [] M2) → V p l e (Rm d) s m args below meth c 10 D cy ad G (wA ad G) 0 0 (MQ below (wQ D cy ad G (rI Qf)) args s 0 0 (wA ad G)) 167 [(0, .ref (ad 30 0)), (1, .int by_), (2, .int (bI (q'.2 = true))), (3, .int (nI rd))] [] M' := by
      intro M' q' g1 g2 g3 g4 g5
      have h3 := ih (rd + 1) q' Ms M' (by omega) g1 g3 g4 (fun M2 A' k1 k2 k3 k4 => g5 M2 A' k1 k2 (k3.trans g2) k4)
      refine Vs_iinc (v := nI (rd + 1)) (lv' := [(0, _), (1, _), (2, _), (3, _)]) (pc := 167) C 3 dX10_rest_167 rfl (by decide) rfl (nI_i1 (rd)) rfl ?_
      refine V_goto (tgt := 43) (pc := 170) C dX10_rest_170 (by decide) ?_
      exact h3
    unfold sRest at hQ
    refine V_iload_n (pc := 43) C 3 dX10_rest_43 rfl rfl ?_
    refine V_iconst (v := 4) (pc := 44) C dX10_rest_44 (by decide) ?_
    refine V_icmp_ge (tgt := 173) (pc := 45) C dX10_rest_45 (by decide) (fun h_45 => ?_) (fun h_45 => ?_)
    · exact absurd h_45 (nI_ge (b := 4) (by omega) (by decide))
    · refine V_iload_n (pc := 48) C 2 dX10_rest_48 rfl rfl ?_
      refine V_if_eq (tgt := 173) (pc := 49) C dX10_rest_49 (by decide) (fun h_49 => ?_) (fun h_49 => ?_)
      · have h_49 := bJ_0.mp h_49
        rw [if_neg h_49] at hQ
        refine V_loc (lv' := [(0, _), (1, _)]) [0, 1] rfl ?_
        exact hQ M q.1 rfl hF rfl hC
      · have h_49 := bJ_1.mp h_49
        rw [if_pos h_49] at hQ
        refine V_iconst (v := 0) (pc := 52) C dX10_rest_52 (by decide) ?_
        refine Vs_istore_n (lv' := [(0, _), (1, _), (2, _), (3, _)]) (pc := 53) C dX10_rest_53 rfl (by decide) rfl rfl ?_
        refine V_iconst (v := 0) (pc := 54) C dX10_rest_54 (by decide) ?_
        refine Vs_istore (lv' := [(0, _), (1, _), (2, _), (3, _), (4, _)]) (pc := 55) C dX10_rest_55 (by decide) rfl rfl ?_
        rw [show (0 : Int32) = bI (false = true) from bI_f (by decide)]
        exact lb_X10_rest C hr hlk hG hd hP by_ _ _ nb 0 (q.1, false) Ms M (by omega) hF hC hA (fun M' q' g1 g2 g3 g4 g5 => nxt M' q' g2 g3 g4 g5 (fun M2 A' k1 k2 k3 k4 => hQ M2 A' (by rw [k1, g1]) k2 k3 k4))
theorem l0_X10_rest {p : Program} {e : Env} {s : State} {m : MethodId} {args : Array Value} {below : List Frame} {meth : Method} {c : Code} (C : CX p s m args c cX10_rest 10 "CostsAgeModel" D cy ad G (wA ad G) (Rm d) d 0 0) (hr : meth.sig.returnType = (some .int)) (hlk : meth.locks = false) (hG : 56 ≤ G) {M0 : wS} {nb nt r e1 e2 e3 : Nat} (hP : IP M0 nb nt r e1 e2 e3) (by_ : Int32) (Qf : Int32 → wS → Prop) : ∀ (n b : Nat) (Ms M : wS), b + n = nb → frW nb Ms M → rC M0 M nb nt r e1 e2 e3 → (M.1 37 0 = Ms.1 37 0) → (∀ k, k < b → M.1 48 0 k = M0.1 28 0 k) → (∀ M', frW nb Ms M' → rC M0 M' nb nt r e1 e2 e3 → (M'.1 37 0 = Ms.1 37 0) → (∀ k, k < nb → M'.1 48 0 k = M0.1 28 0 k) → V p l e (Rm d) s m args below meth c 10 D cy ad G (wA ad G) 0 0 (MQ below (wQ D cy ad G (rI Qf)) args s 0 0 (wA ad G)) 39 [(0, .ref (ad 30 0)), (1, .int by_)] [] M') → V p l e (Rm d) s m args below meth c 10 D cy ad G (wA ad G) 0 0 (MQ below (wQ D cy ad G (rI Qf)) args s 0 0 (wA ad G)) 13 [(0, .ref (ad 30 0)), (1, .int by_), (2, .int (nI b))] [] M := by
  have hb7 := hP.1.2
  intro n
  induction n with
  | zero =>
    intro b Ms M hb hF hC h37 h48 hQ
    have hm := hC.2.1.1.1
    obtain rfl : b = nb := by omega
    refine V_iload_n (pc := 13) C 2 dX10_rest_13 rfl rfl ?_
    refine V_aload_n (pc := 14) C 0 dX10_rest_14 rfl rfl ?_
    refine get_X10_103 (pc := 15) C (wg hG (by decide) (by decide)) dX10_rest_15 ?_
    refine V_icmp_ge (tgt := 39) (pc := 18) C dX10_rest_18 (by decide) (fun h_18 => ?_) (fun h_18 => ?_)
    · refine V_loc (lv' := [(0, _), (1, _)]) [0, 1] rfl ?_
      exact hQ M hF hC h37 h48
    · rw [hm] at h_18
      exact absurd (nI_le (Nat.le_refl _) (by omega)) h_18
  | succ n ih =>
    intro b Ms M hb hF hC h37 h48 hQ
    have hm := hC.2.1.1.1
    have hfe := ((hC.2.1.2.2 b (by omega)).1).2.2.2.1
    refine V_iload_n (pc := 13) C 2 dX10_rest_13 rfl rfl ?_
    refine V_aload_n (pc := 14) C 0 dX10_rest_14 rfl rfl ?_
    refine get_X10_103 (pc := 15) C (wg hG (by decide) (by decide)) dX10_rest_15 ?_
    refine V_icmp_ge (tgt := 39) (pc := 18) C dX10_rest_18 (by decide) (fun h_18 => ?_) (fun h_18 => ?_)
    · rw [hm] at h_18
      exact absurd h_18 (nI_ge (by omega) (by omega))
    · refine V_aload_n (pc := 21) C 0 dX10_rest_21 rfl rfl ?_
      refine get_X10_68 (pc := 22) C (wg hG (by decide) (by decide)) dX10_rest_22 ?_
      refine V_iload_n (pc := 25) C 2 dX10_rest_25 rfl rfl ?_
      refine V_aload_n (pc := 26) C 0 dX10_rest_26 rfl rfl ?_
      refine get_X10_32 (pc := 27) C (wg hG (by decide) (by decide)) dX10_rest_27 ?_
      refine V_iload_n (pc := 30) C 2 dX10_rest_30 rfl rfl ?_
      refine V_iald (pc := 31) C (b) rfl (by omega) (Nat.le_of_ble_eq_true rfl) (wg hG (by decide) (by decide)) wF_37 dX10_rest_31 ?_
      refine V_iast (pc := 32) C (b) rfl (by omega) (Nat.le_of_ble_eq_true rfl) (wg hG (by decide) (by decide)) (fun _ => wF_48) dX10_rest_32 ?_
      rw [hfe]
      refine Vs_iinc (v := nI (b + 1)) (lv' := [(0, _), (1, _), (2, _)]) (pc := 33) C 2 dX10_rest_33 rfl (by decide) rfl (nI_i1 (b)) rfl ?_
      refine V_goto (tgt := 13) (pc := 36) C dX10_rest_36 (by decide) ?_
      refine ih (b + 1) Ms _ (by omega) (hF.tr (frW.was _)) (hC.q (qF.arr (g := 48) _ (by decide))) ?_ (fun k hk => ?_) hQ
      · rw [← h37]
        funext j
        rw [mset_at, if_neg (by omega)]
      · rw [mset_at]
        by_cases e : k = b
        · rw [if_pos ⟨rfl, rfl, e⟩, e]
        · rw [if_neg (fun z => e z.2.2)]; exact h48 k (by omega)
theorem le_X10_rest {p : Program} {e : Env} {s : State} {m : MethodId} {args : Array Value} {below : List Frame} {meth : Method} {c : Code} (C : CX p s m args c cX10_rest 10 "CostsAgeModel" D cy ad G (wA ad G) (Rm d) d 0 0) (hr : meth.sig.returnType = (some .int)) (hlk : meth.locks = false) (hG : 56 ≤ G) {M0 : wS} {nb : Nat} (hb7 : nb ≤ 7) (by_ v : Int32) (Qf : Int32 → wS → Prop) : ∀ (n b : Nat) (Ms M : wS), b + n = nb → frW nb Ms M → M.1 30 0 12 = nI nb → (∀ k, k < nb → M.1 48 0 k = M0.1 28 0 k) → (∀ k, k < b → M.1 37 0 k = M0.1 28 0 k) → (∀ M', frW nb Ms M' → (∀ k, k < nb → M'.1 37 0 k = M0.1 28 0 k) → Qf v M') → V p l e (Rm d) s m args below meth c 10 D cy ad G (wA ad G) 0 0 (MQ below (wQ D cy ad G (rI Qf)) args s 0 0 (wA ad G)) 183 [(0, .ref (ad 30 0)), (1, .int by_), (3, .int v), (4, .int (nI b))] [] M := by
  intro n
  induction n with
  | zero =>
    intro b Ms M hb hF hm h48 h37 hQ
    obtain rfl : b = nb := by omega
    refine V_iload (pc := 183) C 3 dX10_rest_183 rfl ?_
    refine V_aload_n (pc := 185) C 0 dX10_rest_185 rfl rfl ?_
    refine get_X10_103 (pc := 186) C (wg hG (by decide) (by decide)) dX10_rest_186 ?_
    refine V_icmp_ge (tgt := 212) (pc := 189) C dX10_rest_189 (by decide) (fun h_189 => ?_) (fun h_189 => ?_)
    · refine V_iload_n (pc := 212) C 2 dX10_rest_212 rfl rfl ?_
      refine V_iret (pc := 213) C hr hlk dX10_rest_213 ⟨_, rfl, ?_⟩
      exact hQ M hF h37
    · rw [hm] at h_189
      exact absurd (nI_le (Nat.le_refl _) (by omega)) h_189
  | succ n ih =>
    intro b Ms M hb hF hm h48 h37 hQ
    refine V_iload (pc := 183) C 3 dX10_rest_183 rfl ?_
    refine V_aload_n (pc := 185) C 0 dX10_rest_185 rfl rfl ?_
    refine get_X10_103 (pc := 186) C (wg hG (by decide) (by decide)) dX10_rest_186 ?_
    refine V_icmp_ge (tgt := 212) (pc := 189) C dX10_rest_189 (by decide) (fun h_189 => ?_) (fun h_189 => ?_)
    · rw [hm] at h_189
      exact absurd h_189 (nI_ge (by omega) (by omega))
    · refine V_aload_n (pc := 192) C 0 dX10_rest_192 rfl rfl ?_
      refine get_X10_32 (pc := 193) C (wg hG (by decide) (by decide)) dX10_rest_193 ?_
      refine V_iload (pc := 196) C 3 dX10_rest_196 rfl ?_
      refine V_aload_n (pc := 198) C 0 dX10_rest_198 rfl rfl ?_
      refine get_X10_68 (pc := 199) C (wg hG (by decide) (by decide)) dX10_rest_199 ?_
      refine V_iload (pc := 202) C 3 dX10_rest_202 rfl ?_
      refine V_iald (pc := 204) C (b) rfl (by omega) (Nat.le_of_ble_eq_true rfl) (wg hG (by decide) (by decide)) wF_48 dX10_rest_204 ?_
      refine V_iast (pc := 205) C (b) rfl (by omega) (Nat.le_of_ble_eq_true rfl) (wg hG (by decide) (by decide)) (fun _ => wF_37) dX10_rest_205 ?_
      rw [h48 b (by omega)]
      refine Vs_iinc (v := nI (b + 1)) (lv' := [(0, _), (1, _), (3, _), (4, _)]) (pc := 206) C 3 dX10_rest_206 rfl (by decide) rfl (nI_i1 (b)) rfl ?_
      refine V_goto (tgt := 183) (pc := 209) C dX10_rest_209 (by decide) ?_
      refine ih (b + 1) Ms _ (by omega) (hF.tr (frW.fee _ (by omega))) ?_ (fun k hk => ?_) (fun k hk => ?_) hQ
      · rw [mset_at, if_neg (by omega)]; exact hm
      · rw [mset_at, if_neg (by omega)]; exact h48 k hk
      · rw [mset_at]
        by_cases e : k = b
        · rw [if_pos ⟨rfl, rfl, e⟩, e]
        · rw [if_neg (fun z => e z.2.2)]; exact h37 k (by omega)
theorem mFee_self {M0 : wS} : mFee M0 (M0.1 28 0) = M0 := mrow_id M0 28 0
theorem r_rest (hG : 56 ≤ G) (hd : 46 ≤ d) {M0 M : wS} {nb nt r e1 e2 e3 : Nat} (hC : rC M0 M nb nt r e1 e2 e3) (buyer : Int32) : Ctr l D cy ad G d yX10_rest cX10_rest 10 (some .int) [.ref (ad 30 0), .int buyer] M (rI fun x M' => qF M M' ∧ ((0 ≤ buyer ∧ buyer < nI nb) → x = sRest M0 nb nt r e1 e2 4 (M0.1 28 0, true) buyer.toNatClampNeg) ∧ (¬ (0 ≤ buyer ∧ buyer < nI nb) → x = -2)) := by
  have hP := hC.1
  have hb7 := hP.1.2
  have hA : okF (M0.1 28 0) := fun k hk => (hP.2.2.2.1 k hk).2.2.2.2
  refine Ctr.of (lv0 := [(0, _), (1, _)]) (by decide) (Nat.le_of_ble_eq_true rfl) rfl ?_
  intro p e s m args below meth c C hr hlk _
  have C : CX p s m args c cX10_rest 10 "CostsAgeModel" D cy ad G (wA ad G) (Rm d) d 0 0 := C
  refine V_aload_n (pc := 0) C 0 dX10_rest_0 rfl rfl ?_
  refine V_iload_n (pc := 1) C 1 dX10_rest_1 rfl rfl ?_
  refine call_X10_132 (pc := 2) C (c_X10_isBuyer (d := d - 1) hG (by omega) M hC.2.1.1.1 hb7 buyer) (by omega) (wg hG (by decide) (by decide)) (Nat.le_of_ble_eq_true rfl) dX10_rest_2 (fun x_2 M_2 h_2 => ?_)
  obtain ⟨e_2, rfl⟩ := h_2
  have e_2 := e_2.symm
  subst e_2
  refine V_if_ne (tgt := 11) (pc := 5) C dX10_rest_5 (by decide) (fun h_5 => ?_) (fun h_5 => ?_)
  · have h_5 := bJ_1.mp h_5
    obtain ⟨k, hk, rfl⟩ := ix_of h_5.1 h_5.2 (by omega)
    rw [nI_clamp (by omega)]
    refine V_iconst (v := 0) (pc := 11) C dX10_rest_11 (by decide) ?_
    refine Vs_istore_n (lv' := [(0, _), (1, _), (2, _)]) (pc := 12) C dX10_rest_12 rfl (by decide) rfl rfl ?_
    refine l0_X10_rest C hr hlk hG hP (nI k) _ nb 0 M M (by omega) frW.rf hC rfl (fun j hj => absurd hj (Nat.not_lt_zero _)) (fun M1 g1 g2 g3 g4 => ?_)
    refine V_iconst (v := 1) (pc := 39) C dX10_rest_39 (by decide) ?_
    refine Vs_istore_n (lv' := [(0, _), (1, _), (2, _)]) (pc := 40) C dX10_rest_40 rfl (by decide) rfl rfl ?_
    refine V_iconst (v := 0) (pc := 41) C dX10_rest_41 (by decide) ?_
    refine Vs_istore_n (lv' := [(0, _), (1, _), (2, _), (3, _)]) (pc := 42) C dX10_rest_42 rfl (by decide) rfl rfl ?_
    rw [show (1 : Int32) = bI (true = true) from bI_t rfl]
    have hC1 : fC M0 M1 nb nt r e1 e2 e3 (M0.1 28 0) := by unfold fC; rw [mFee_self]; exact g2
    refine lr_X10_rest C hr hlk hG hd hP (nI k) _ 4 0 (M0.1 28 0, true) M M1 (by decide) g1 hC1 hA (fun M2 A' k1 k2 k3 k4 => ?_)
    have hk7 : k < 7 := by omega
    have hAv := k4.fee hk7
    refine V_aload_n (pc := 173) C 0 dX10_rest_173 rfl rfl ?_
    refine get_X10_32 (pc := 174) C (wg hG (by decide) (by decide)) dX10_rest_174 ?_
    refine V_iload_n (pc := 177) C 1 dX10_rest_177 rfl rfl ?_
    refine V_iald (pc := 178) C (k) rfl hk7 (Nat.le_of_ble_eq_true rfl) (wg hG (by decide) (by decide)) wF_37 dX10_rest_178 ?_
    rw [hAv]
    refine Vs_istore_n (lv' := [(0, _), (1, _), (3, _)]) (pc := 179) C dX10_rest_179 rfl (by decide) rfl rfl ?_
    refine V_iconst (v := 0) (pc := 180) C dX10_rest_180 (by decide) ?_
    refine Vs_istore (lv' := [(0, _), (1, _), (3, _), (4, _)]) (pc := 181) C dX10_rest_181 (by decide) rfl rfl ?_
    refine le_X10_rest (M0 := M0) C hr hlk hG hb7 (nI k) (A' k) _ nb 0 M M2 (by omega) k2 k4.2.1.1.1 (fun j hj => by rw [k3]; exact g4 j hj) (fun j hj => absurd hj (Nat.not_lt_zero _)) (fun M3 m1 m2 => ⟨?_, fun _ => by rw [k1], fun e => absurd h_5 e⟩)
    refine ⟨fun g i q1 q2 => ?_, m1.2.1⟩
    by_cases e : g = 37
    · subst e
      by_cases e2 : i = 0
      · subst e2
        funext j
        by_cases e3 : j < nb
        · rw [m2 j e3]
          exact ((hC.2.1.2.2 j (by omega)).1.2.2.2.1).symm
        · exact m1.2.2.2 j (by omega)
      · exact m1.2.2.1 i e2
    · exact m1.1 g i q1 e q2
  · have h_5 := bJ_0.mp h_5
    refine V_bipush (v := -2) (pc := 8) C dX10_rest_8 (by decide) ?_
    refine V_iret (pc := 10) C hr hlk dX10_rest_10 ⟨_, rfl, ?_⟩
    exact ⟨qF.rf, fun e => absurd e h_5, fun _ => rfl⟩
end S72
