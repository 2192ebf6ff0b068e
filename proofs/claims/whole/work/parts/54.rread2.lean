section S54
variable {l : Launch} {D : va_G} {cy : Nat → ClassId} {ad : Nat → Nat → Nat} {G d : Nat}
theorem l2_X10_not {p : Program} {e : Env} {s : State} {m : MethodId} {args : Array Value} {below : List Frame} {meth : Method} {c : Code} (C : CX p s m args c cX10_not 4 "CostsAgeModel" D cy ad G (wA ad G) (Rm d) d 0 0) (hr : meth.sig.returnType = (some .int)) (hlk : meth.locks = false) (hG : 56 ≤ G) (hd : 7 ≤ d) {F z o : Nat} {f e0 : Nat → Int32} {sm : rS → rS × Int32} (h1 : RV l D cy ad G (d - 1) yX10_added cX10_added 4 F z f e0 o sm) (hm : mono z sm) {M : wS} {q : rS} (hB : rB M F z f e0) (hR : rfS M f z q) (hnb : q.2.2.2.2 = -1) (hp : pok z q) (ho : M.1 30 0 34 = nI o) (Qf : Int32 → wS → Prop) (hQ : ∀ M' x, frR M M' → M'.1 30 0 34 = nI o → rfS M' f z (gCmp2 f z (vA e0) sm (sm q)).1 → ((gCmp2 f z (vA e0) sm (sm q)).1.2.2.2.2 = -1 → x = (gCmp2 f z (vA e0) sm (sm q)).2) → Qf x M') : V p l e (Rm d) s m args below meth c 4 D cy ad G (wA ad G) 0 0 (MQ below (wQ D cy ad G (rI Qf)) args s 0 0 (wA ad G)) 52 [(0, .ref (ad 30 0))] [] M := by
  have hs := hm q hp
  refine V_aload_n (pc := 52) C 0 dX10_not_52 rfl rfl ?_
  refine call_X10_254 (pc := 53) C (h1 _ _ hB hR hnb hp ho) (by omega) (wg hG (by decide) (by decide)) (Nat.le_of_ble_eq_true rfl) dX10_not_53 (fun x_53 M_53 h_53 => ?_)
  obtain ⟨f1, f2, f3, f4⟩ := h_53
  refine Vs_istore_n (lv' := [(0, _), (1, _)]) (pc := 56) C dX10_not_56 rfl (by decide) rfl rfl ?_
  refine V_aload_n (pc := 57) C 0 dX10_not_57 rfl rfl ?_
  refine V_bipush (v := 60) (pc := 58) C dX10_not_58 (by decide) ?_
  refine call_X10_229 (pc := 60) C (r_sign (d := d - 1) hG (hB.rr f1).1 f3 (v := 60) rfl) (by omega) (wg hG (by decide) (by decide)) (Nat.le_of_ble_eq_true rfl) dX10_not_60 (fun x_60 M_60 h_60 => ?_)
  obtain ⟨e_60, rfl⟩ := h_60
  have e_60 := e_60.symm
  subst e_60
  refine V_if_ne (tgt := 77) (pc := 63) C dX10_not_63 (by decide) (fun h_63 => ?_) (fun h_63 => ?_)
  · have h_63 := bJ_1.mp h_63
    have hop := (Or.inl h_63 : (sm q).1.2.2.1 = 60 ∨ (sm q).1.2.2.1 = 61)
    have hcd : cdC (sm q).1.2.2.1 = -11 := by rw [cdC, if_pos h_63]
    have hm1 : ¬ (sm q).1.2.2.1 = -1 := fun e => absurd (h_63.symm.trans e) (by decide)
    have hb2 := f3.nb hm1
    have hn := nx_ok f hs.1
    have hw := sign_w f3 (v := 60) rfl h_63
    refine V_aload_n (pc := 77) C 0 dX10_not_77 rfl rfl ?_
    refine get_X10_183 (pc := 78) C (wg hG (by decide) (by decide)) dX10_not_78 ?_
    refine V_ldc2 (pc := 81) C dX10_not_81 qk_X10_257 ?_
    refine V_lcmp (pc := 84) C dX10_not_84 ?_
    refine V_if_ne (tgt := 92) (pc := 85) C dX10_not_85 (by decide) (fun h_85 => ?_) (fun h_85 => ?_)
    · rw [hw] at h_85
      exact absurd (show lg_cmp ((60 : Int32).toInt64) 60 = 0 by decide) h_85
    · refine V_iconst (v := 1) (pc := 88) C dX10_not_88 (by decide) ?_
      refine V_goto (tgt := 93) (pc := 89) C dX10_not_89 (by decide) ?_
      refine Vs_istore_n (lv' := [(0, _), (1, _), (2, _)]) (pc := 93) C dX10_not_93 rfl (by decide) rfl rfl ?_
      refine V_aload_n (pc := 94) C 0 dX10_not_94 rfl rfl ?_
      refine call_X10_204 (pc := 95) C (r_next (d := d - 1) hG (by omega) (hB.rr f1).1 f3 hb2 hm1) (by omega) (wg hG (by decide) (by decide)) (Nat.le_of_ble_eq_true rfl) dX10_not_95 (fun M_95 h_95 => ?_)
      obtain ⟨g1, g2, g3⟩ := h_95
      refine V_aload_n (pc := 98) C 0 dX10_not_98 rfl rfl ?_
      refine call_X10_254 (pc := 99) C (h1 _ _ ((hB.rr f1).rr g1) g3 hb2 hn.1 (g2.trans f2)) (by omega) (wg hG (by decide) (by decide)) (Nat.le_of_ble_eq_true rfl) dX10_not_99 (fun x_99 M_99 h_99 => ?_)
      obtain ⟨k1, k2, k3, k4⟩ := h_99
      refine Vs_istore_n (lv' := [(0, _), (1, _), (2, _), (3, _)]) (pc := 102) C dX10_not_102 rfl (by decide) rfl rfl ?_
      refine V_iload_n (pc := 103) C 2 dX10_not_103 rfl rfl ?_
      refine V_if_eq (tgt := 115) (pc := 104) C dX10_not_104 (by decide) (fun h => absurd h (by decide)) (fun _ => ?_)
      refine V_iload_n (pc := 107) C 1 dX10_not_107 rfl rfl ?_
      refine V_iload_n (pc := 108) C 3 dX10_not_108 rfl rfl ?_
      refine V_icmp_ge (tgt := 124) (pc := 109) C dX10_not_109 (by decide) (fun h_109 => ?_) (fun h_109 => ?_)
      · refine V_iconst (v := 0) (pc := 124) C dX10_not_124 (by decide) ?_
        refine V_iret (pc := 125) C hr hlk dX10_not_125 ⟨_, rfl, ?_⟩
        refine hQ _ _ ((f1.tr g1).tr k1) k2 (by rw [gCmp2, if_pos hop]; exact k3) (fun e => ?_)
        rw [gCmp2, if_pos hop] at e ⊢
        simp only []
        rw [hcd, ← f4 hb2, ← k4 e]
        first | exact bI_f (Int32.not_lt.mpr h_109) | exact bI_t (Int32.not_le.mp h_109) | exact bI_t h_117 | exact bI_f h_117
      · refine V_goto (tgt := 120) (pc := 112) C dX10_not_112 (by decide) ?_
        refine V_iconst (v := 1) (pc := 120) C dX10_not_120 (by decide) ?_
        refine V_goto (tgt := 125) (pc := 121) C dX10_not_121 (by decide) ?_
        refine V_iret (pc := 125) C hr hlk dX10_not_125 ⟨_, rfl, ?_⟩
        refine hQ _ _ ((f1.tr g1).tr k1) k2 (by rw [gCmp2, if_pos hop]; exact k3) (fun e => ?_)
        rw [gCmp2, if_pos hop] at e ⊢
        simp only []
        rw [hcd, ← f4 hb2, ← k4 e]
        first | exact bI_f (Int32.not_lt.mpr h_109) | exact bI_t (Int32.not_le.mp h_109) | exact bI_t h_117 | exact bI_f h_117
  · have h_63 := bJ_0.mp h_63
    refine V_aload_n (pc := 66) C 0 dX10_not_66 rfl rfl ?_
    refine V_bipush (v := 61) (pc := 67) C dX10_not_67 (by decide) ?_
    refine call_X10_229 (pc := 69) C (r_sign (d := d - 1) hG (hB.rr f1).1 f3 (v := 61) rfl) (by omega) (wg hG (by decide) (by decide)) (Nat.le_of_ble_eq_true rfl) dX10_not_69 (fun x_69 M_69 h_69 => ?_)
    obtain ⟨e_69, rfl⟩ := h_69
    have e_69 := e_69.symm
    subst e_69
    refine V_if_ne (tgt := 77) (pc := 72) C dX10_not_72 (by decide) (fun h_72 => ?_) (fun h_72 => ?_)
    · have h_72 := bJ_1.mp h_72
      have hop := (Or.inr h_72 : (sm q).1.2.2.1 = 60 ∨ (sm q).1.2.2.1 = 61)
      have hcd : cdC (sm q).1.2.2.1 = -12 := by rw [cdC, if_neg h_63]
      have hm1 : ¬ (sm q).1.2.2.1 = -1 := fun e => absurd (h_72.symm.trans e) (by decide)
      have hb2 := f3.nb hm1
      have hn := nx_ok f hs.1
      have hw := sign_w f3 (v := 61) rfl h_72
      refine V_aload_n (pc := 77) C 0 dX10_not_77 rfl rfl ?_
      refine get_X10_183 (pc := 78) C (wg hG (by decide) (by decide)) dX10_not_78 ?_
      refine V_ldc2 (pc := 81) C dX10_not_81 qk_X10_257 ?_
      refine V_lcmp (pc := 84) C dX10_not_84 ?_
      refine V_if_ne (tgt := 92) (pc := 85) C dX10_not_85 (by decide) (fun h_85 => ?_) (fun h_85 => ?_)
      · refine V_iconst (v := 0) (pc := 92) C dX10_not_92 (by decide) ?_
        refine Vs_istore_n (lv' := [(0, _), (1, _), (2, _)]) (pc := 93) C dX10_not_93 rfl (by decide) rfl rfl ?_
        refine V_aload_n (pc := 94) C 0 dX10_not_94 rfl rfl ?_
        refine call_X10_204 (pc := 95) C (r_next (d := d - 1) hG (by omega) (hB.rr f1).1 f3 hb2 hm1) (by omega) (wg hG (by decide) (by decide)) (Nat.le_of_ble_eq_true rfl) dX10_not_95 (fun M_95 h_95 => ?_)
        obtain ⟨g1, g2, g3⟩ := h_95
        refine V_aload_n (pc := 98) C 0 dX10_not_98 rfl rfl ?_
        refine call_X10_254 (pc := 99) C (h1 _ _ ((hB.rr f1).rr g1) g3 hb2 hn.1 (g2.trans f2)) (by omega) (wg hG (by decide) (by decide)) (Nat.le_of_ble_eq_true rfl) dX10_not_99 (fun x_99 M_99 h_99 => ?_)
        obtain ⟨k1, k2, k3, k4⟩ := h_99
        refine Vs_istore_n (lv' := [(0, _), (1, _), (2, _), (3, _)]) (pc := 102) C dX10_not_102 rfl (by decide) rfl rfl ?_
        refine V_iload_n (pc := 103) C 2 dX10_not_103 rfl rfl ?_
        refine V_if_eq (tgt := 115) (pc := 104) C dX10_not_104 (by decide) (fun _ => ?_) (fun h => absurd (by decide) h)
        refine V_iload_n (pc := 115) C 1 dX10_not_115 rfl rfl ?_
        refine V_iload_n (pc := 116) C 3 dX10_not_116 rfl rfl ?_
        refine V_icmp_ne (tgt := 124) (pc := 117) C dX10_not_117 (by decide) (fun h_117 => ?_) (fun h_117 => ?_)
        · refine V_iconst (v := 0) (pc := 124) C dX10_not_124 (by decide) ?_
          refine V_iret (pc := 125) C hr hlk dX10_not_125 ⟨_, rfl, ?_⟩
          refine hQ _ _ ((f1.tr g1).tr k1) k2 (by rw [gCmp2, if_pos hop]; exact k3) (fun e => ?_)
          rw [gCmp2, if_pos hop] at e ⊢
          simp only []
          rw [hcd, ← f4 hb2, ← k4 e]
          first | exact bI_f (Int32.not_lt.mpr h_109) | exact bI_t (Int32.not_le.mp h_109) | exact bI_t h_117 | exact bI_f h_117
        · refine V_iconst (v := 1) (pc := 120) C dX10_not_120 (by decide) ?_
          refine V_goto (tgt := 125) (pc := 121) C dX10_not_121 (by decide) ?_
          refine V_iret (pc := 125) C hr hlk dX10_not_125 ⟨_, rfl, ?_⟩
          refine hQ _ _ ((f1.tr g1).tr k1) k2 (by rw [gCmp2, if_pos hop]; exact k3) (fun e => ?_)
          rw [gCmp2, if_pos hop] at e ⊢
          simp only []
          rw [hcd, ← f4 hb2, ← k4 e]
          first | exact bI_f (Int32.not_lt.mpr h_109) | exact bI_t (Int32.not_le.mp h_109) | exact bI_t h_117 | exact bI_f h_117
      · rw [hw] at h_85
        exact absurd h_85 (by decide)
    · have h_72 := bJ_0.mp h_72
      have hop : ¬ ((sm q).1.2.2.1 = 60 ∨ (sm q).1.2.2.1 = 61) := fun e => e.elim h_63 h_72
      refine V_iload_n (pc := 75) C 1 dX10_not_75 rfl rfl ?_
      refine V_iret (pc := 76) C hr hlk dX10_not_76 ⟨_, rfl, ?_⟩
      exact hQ _ _ f1 f2 (by rw [gCmp2, if_neg hop]; exact f3) (by rw [gCmp2, if_neg hop]; exact f4)
theorem rv_not (hG : 56 ≤ G) (hd : 7 ≤ d) {F z o : Nat} (ho5 : o ≤ 5) {f e0 : Nat → Int32} {ok : Bool} (hok : ok = true ↔ o < 5) {one rn : rS → rS × Int32} (h1 : RV l D cy ad G (d - 1) yX10_added cX10_added 4 F z f e0 o (gSum f z (vA e0) one)) (hm : mono z (gSum f z (vA e0) one)) (h2 : ok = true → RV l D cy ad G (d - 1) yX10_not cX10_not 4 F z f e0 (o + 1) rn) : RV l D cy ad G d yX10_not cX10_not 4 F z f e0 o (gNotF f z (vA e0) ok rn one) := by
  intro M q hB hR hnb hp ho
  refine Ctr.of (lv0 := [(0, _)]) (by decide) (Nat.le_of_ble_eq_true rfl) rfl ?_
  intro p e s m args below meth c C hr hlk _
  have C : CX p s m args c cX10_not 4 "CostsAgeModel" D cy ad G (wA ad G) (Rm d) d 0 0 := C
  refine V_aload_n (pc := 0) C 0 dX10_not_0 rfl rfl ?_
  refine V_bipush (v := 110) (pc := 1) C dX10_not_1 (by decide) ?_
  refine V_bipush (v := 111) (pc := 3) C dX10_not_3 (by decide) ?_
  refine V_bipush (v := 116) (pc := 5) C dX10_not_5 (by decide) ?_
  refine V_iconst (v := 0) (pc := 7) C dX10_not_7 (by decide) ?_
  refine V_iconst (v := 0) (pc := 8) C dX10_not_8 (by decide) ?_
  refine V_iconst (v := 0) (pc := 9) C dX10_not_9 (by decide) ?_
  refine V_iconst (v := 0) (pc := 10) C dX10_not_10 (by decide) ?_
  refine V_iconst (v := 0) (pc := 11) C dX10_not_11 (by decide) ?_
  refine call_X10_207 (pc := 12) C (r_word (d := d - 1) hG (by omega) hB.1 hR 12 (by decide) (by decide)) (by omega) (wg hG (by decide) (by decide)) (Nat.le_of_ble_eq_true rfl) dX10_not_12 (fun x_12 M_12 h_12 => ?_)
  obtain ⟨e_12, rfl⟩ := h_12
  have e_12 := e_12.symm
  subst e_12
  refine V_if_eq (tgt := 52) (pc := 15) C dX10_not_15 (by decide) (fun h_15 => ?_) (fun h_15 => ?_)
  · have h_15 := bJ_0.mp h_15
    rw [wq_hi (by decide)] at h_15
    have h_15 : ¬ q.2.2.1 = 8 := h_15
    exact l2_X10_not C hr hlk hG hd h1 hm hB hR hnb hp ho _ (fun M' x q1 q2 q3 q4 => ⟨q1, q2, by rw [gNotF, if_neg h_15]; exact q3, fun e => by rw [gNotF, if_neg h_15] at e ⊢; exact q4 e⟩)
  · have h_15 := bJ_1.mp h_15
    rw [wq_hi (by decide)] at h_15
    have h_15 : q.2.2.1 = 8 := h_15
    have hm1 : ¬ q.2.2.1 = -1 := fun e => absurd (h_15.symm.trans e) (by decide)
    have hn := nx_ok f hp
    refine V_aload_n (pc := 18) C 0 dX10_not_18 rfl rfl ?_
    refine call_X10_232 (pc := 19) C (r_opens (d := d - 1) hG (by omega) hB.1 hR hnb hm1 ho ho5) (by omega) (wg hG (by decide) (by decide)) (Nat.le_of_ble_eq_true rfl) dX10_not_19 (fun x_19 M_19 h_19 => ?_)
    obtain ⟨e_19, f1, f2, f3⟩ := h_19
    subst e_19
    refine V_if_ne (tgt := 27) (pc := 22) C dX10_not_22 (by decide) (fun h_22 => ?_) (fun h_22 => ?_)
    · have h_22 := bJ_1.mp h_22
      rw [if_pos h_22] at f2 f3
      have hk : ok = true := hok.mpr h_22
      refine V_aload_n (pc := 27) C 0 dX10_not_27 rfl rfl ?_
      refine call_X10_251 (pc := 28) C (h2 hk _ _ (hB.rr f1) f3 hnb hn.1 f2) (by omega) (wg hG (by decide) (by decide)) (Nat.le_of_ble_eq_true rfl) dX10_not_28 (fun x_28 M_28 h_28 => ?_)
      obtain ⟨g1, g2, g3, g4⟩ := h_28
      refine Vs_istore_n (lv' := [(0, _), (1, _)]) (pc := 31) C dX10_not_31 rfl (by decide) rfl rfl ?_
      refine V_aload_n (pc := 32) C 0 dX10_not_32 rfl rfl ?_
      refine V_dup (pc := 33) C dX10_not_33 rfl ?_
      refine get_X10_198 (pc := 34) C (wg hG (by decide) (by decide)) dX10_not_34 ?_
      refine V_iconst (v := 1) (pc := 37) C dX10_not_37 (by decide) ?_
      refine V_isub (pc := 38) C dX10_not_38 ?_
      refine put_X10_198 (pc := 39) C (wg hG (by decide) (by decide)) dX10_not_39 ?_
      rw [g2, nI_pred]
      refine V_iload_n (pc := 42) C 1 dX10_not_42 rfl rfl ?_
      refine V_if_ne (tgt := 50) (pc := 43) C dX10_not_43 (by decide) (fun h_43 => ?_) (fun h_43 => ?_)
      · refine V_iconst (v := 0) (pc := 50) C dX10_not_50 (by decide) ?_
        refine V_iret (pc := 51) C hr hlk dX10_not_51 ⟨_, rfl, ?_⟩
        refine ⟨(f1.tr g1).tr (frR.set _ (by omega)), by rw [mset_at, if_pos ⟨rfl, rfl, rfl⟩], by rw [gNotF, if_pos h_15, if_pos hk]; exact g3.s34 _, fun e => ?_⟩
        rw [gNotF, if_pos h_15, if_pos hk] at e ⊢
        simp only []
        rw [← g4 e]
        first | exact bI_t h_43 | exact bI_f h_43
      · refine V_iconst (v := 1) (pc := 46) C dX10_not_46 (by decide) ?_
        refine V_goto (tgt := 51) (pc := 47) C dX10_not_47 (by decide) ?_
        refine V_iret (pc := 51) C hr hlk dX10_not_51 ⟨_, rfl, ?_⟩
        refine ⟨(f1.tr g1).tr (frR.set _ (by omega)), by rw [mset_at, if_pos ⟨rfl, rfl, rfl⟩], by rw [gNotF, if_pos h_15, if_pos hk]; exact g3.s34 _, fun e => ?_⟩
        rw [gNotF, if_pos h_15, if_pos hk] at e ⊢
        simp only []
        rw [← g4 e]
        first | exact bI_t h_43 | exact bI_f h_43
    · have h_22 := bJ_0.mp h_22
      rw [if_neg h_22] at f2 f3
      have hk : ¬ ok = true := fun e => h_22 (hok.mp e)
      refine V_iconst (v := 0) (pc := 25) C dX10_not_25 (by decide) ?_
      refine V_iret (pc := 26) C hr hlk dX10_not_26 ⟨_, rfl, ?_⟩
      exact ⟨f1, f2, by rw [gNotF, if_pos h_15, if_neg hk]; exact f3, fun _ => by rw [gNotF, if_pos h_15, if_neg hk]; rfl⟩
theorem nm_neg : ∀ i, 1 ≤ i → i < 7 → -1 - nI (i - 1) < 0 := by
  have key : ∀ i, i < 7 → 1 ≤ i → -1 - nI (i - 1) < 0 := by decide +kernel
  exact fun i a b => key i b a
theorem num_v {M : wS} {f : Nat → Int32} {z : Nat} {q : rS} {e0 : Nat → Int32} (h : rfS M f z q) (hp : q.2.2.1 = 1) : M.1 30 0 31 = 2 ∧ M.2.toInt32 = (vA e0).1 q.2.2.2.1 := by
  have nm : ¬ q.2.2.1 = -1 := fun e => absurd (hp.symm.trans e) (by decide)
  rcases h with ⟨a1, a2, a3, a4⟩ | ⟨_, b, _⟩
  · have hs := tok_num (f := f) (z := z) (q := q.2.1)
    rw [a4] at hs
    have hk := hs.1.mpr hp
    have hv := hs.2 hk
    have hr := a3.2.2.2.1 hk
    refine ⟨a3.2.1.trans hk, ?_⟩
    have h6 : 0 ≤ (lxNv f (z - q.2.1) q.2.1 0).toInt := by
      refine (lxNv_r f (z - q.2.1) q.2.1 0 0 ?_ ⟨by decide, by decide⟩).1
      unfold kdF at hk
      by_cases c1 : z ≤ q.2.1
      · rw [if_pos c1] at hk
        exact absurd hk (by decide)
      · rw [if_neg c1] at hk
        by_cases c2 : 97 ≤ f q.2.1 ∧ f q.2.1 ≤ 122
        · rw [if_pos c2] at hk
          exact absurd hk (by decide)
        · rw [if_neg c2] at hk
          by_cases c3 : 48 ≤ f q.2.1 ∧ f q.2.1 ≤ 57
          · rw [if_pos c3] at hk
            by_cases c4 : lxDg f (z - q.2.1) q.2.1 - q.2.1 ≤ 4
            · omega
            · rw [if_neg c4] at hk
              exact absurd hk (by decide)
          · rw [if_neg c3] at hk
            exfalso
            revert hk
            split <;> decide
    rw [hr, show q.2.2.2.1 = lxNv f (z - q.2.1) q.2.1 0 from hv, Int32.toInt32_toInt64]
    show _ = if lxNv f (z - q.2.1) q.2.1 0 < 0 then _ else lxNv f (z - q.2.1) q.2.1 0
    rw [if_neg (Int32.not_lt.mpr (Int32.le_iff_toInt_le.mpr (show (0 : Int32).toInt ≤ _ from h6)))]
  · exact absurd b nm
theorem word_k {M : wS} {f : Nat → Int32} {z : Nat} {q : rS} (h : rfS M f z q) (hp : q.2.2.1 = 2) : M.1 30 0 31 = 1 ∧ ∃ i, 1 ≤ i ∧ i ≤ 6 ∧ q.2.2.2.1 = -1 - nI (i - 1) := by
  have nm : ¬ q.2.2.1 = -1 := fun e => absurd (hp.symm.trans e) (by decide)
  rcases h with ⟨a1, a2, a3, a4⟩ | ⟨_, b, _⟩
  · have hs := tok2 (f := f) (z := z) (q := q.2.1)
    rw [a4] at hs
    have h2 := hs hp
    exact ⟨a3.2.1.trans h2.1, h2.2⟩
  · exact absurd b nm
theorem num_k {M : wS} {f : Nat → Int32} {z : Nat} {q : rS} (h : rfS M f z q) (hn : q.2.2.2.2 = -1) (hk : M.1 30 0 31 = 2) : q.2.2.1 = 1 := by
  rcases h with ⟨a1, a2, a3, a4⟩ | ⟨b, _⟩
  · have hs := tok_num (f := f) (z := z) (q := q.2.1)
    rw [a4] at hs
    exact hs.1.mp (a3.2.1.symm.trans hk)
  · exact absurd hn b
theorem vA_neg {e : Nat → Int32} {v : Int32} (h : v < 0) : (vA e).1 v = e (-1 - v).toNatClampNeg := if_pos h
theorem rv_atom (hG : 56 ≤ G) (hd : 4 ≤ d) {F z o : Nat} (ho5 : o ≤ 5) {f e0 : Nat → Int32} {ok : Bool} (hok : ok = true ↔ o < 5) {ro re : rS → rS × Int32} (h1 : ok = true → RV l D cy ad G (d - 1) yX10_atom cX10_atom 2 F z f e0 (o + 1) ro) (h2 : ok = true → RV l D cy ad G (d - 1) yX10_either cX10_either 3 F z f e0 (o + 1) re) (hm2 : ok = true → mono z re) : RV l D cy ad G d yX10_atom cX10_atom 2 F z f e0 o (gOneF f z (vA e0) ok ro re) := by
  intro M q hB hR hnb hp ho
  have hbad : M.1 30 0 35 = 0 := hR.bad.mpr hnb
  have hz := hB.1.2.2.1
  have hrf := (rf_ok hz hp).2
  refine Ctr.of (lv0 := [(0, _)]) (by decide) (Nat.le_of_ble_eq_true rfl) rfl ?_
  intro p e s m args below meth c C hr hlk _
  have C : CX p s m args c cX10_atom 2 "CostsAgeModel" D cy ad G (wA ad G) (Rm d) d 0 0 := C
  refine V_iconst (v := 0) (pc := 0) C dX10_atom_0 (by decide) ?_
  refine Vs_istore_n (lv' := [(0, _), (1, _)]) (pc := 1) C dX10_atom_1 rfl (by decide) rfl rfl ?_
  refine V_aload_n (pc := 2) C 0 dX10_atom_2 rfl rfl ?_
  refine V_bipush (v := 45) (pc := 3) C dX10_atom_3 (by decide) ?_
  refine call_X10_229 (pc := 5) C (r_sign (d := d - 1) hG hB.1 hR (v := 45) rfl) (by omega) (wg hG (by decide) (by decide)) (Nat.le_of_ble_eq_true rfl) dX10_atom_5 (fun x_5 M_5 h_5 => ?_)
  obtain ⟨e_5, rfl⟩ := h_5
  have e_5 := e_5.symm
  subst e_5
  refine V_if_eq (tgt := 37) (pc := 8) C dX10_atom_8 (by decide) (fun h_8 => ?_) (fun h_8 => ?_)
  · have h_8 := bJ_0.mp h_8
    skip
    refine V_aload_n (pc := 37) C 0 dX10_atom_37 rfl rfl ?_
    refine V_bipush (v := 40) (pc := 38) C dX10_atom_38 (by decide) ?_
    refine call_X10_229 (pc := 40) C (r_sign (d := d - 1) hG hB.1 hR (v := 40) rfl) (by omega) (wg hG (by decide) (by decide)) (Nat.le_of_ble_eq_true rfl) dX10_atom_40 (fun x_40 M_40 h_40 => ?_)
    obtain ⟨e_40, rfl⟩ := h_40
    have e_40 := e_40.symm
    subst e_40
    refine V_if_eq (tgt := 95) (pc := 43) C dX10_atom_43 (by decide) (fun h_43 => ?_) (fun h_43 => ?_)
    · have h_43 := bJ_0.mp h_43
      skip
      refine V_aload_n (pc := 95) C 0 dX10_atom_95 rfl rfl ?_
      refine get_X10_187 (pc := 96) C (wg hG (by decide) (by decide)) dX10_atom_96 ?_
      refine V_if_ne (tgt := 123) (pc := 99) C dX10_atom_99 (by decide) (fun h_99 => ?_) (fun h_99 => ?_)
      · exact absurd hbad h_99
      · refine V_aload_n (pc := 102) C 0 dX10_atom_102 rfl rfl ?_
        refine get_X10_172 (pc := 103) C (wg hG (by decide) (by decide)) dX10_atom_103 ?_
        refine V_iconst (v := 2) (pc := 106) C dX10_atom_106 (by decide) ?_
        refine V_icmp_ne (tgt := 123) (pc := 107) C dX10_atom_107 (by decide) (fun h_107 => ?_) (fun h_107 => ?_)
        · refine V_aload_n (pc := 123) C 0 dX10_atom_123 rfl rfl ?_
          refine get_X10_187 (pc := 124) C (wg hG (by decide) (by decide)) dX10_atom_124 ?_
          refine V_if_ne (tgt := 157) (pc := 127) C dX10_atom_127 (by decide) (fun h_127 => ?_) (fun h_127 => ?_)
          · exact absurd hbad h_127
          · refine V_aload_n (pc := 130) C 0 dX10_atom_130 rfl rfl ?_
            refine get_X10_172 (pc := 131) C (wg hG (by decide) (by decide)) dX10_atom_131 ?_
            refine V_iconst (v := 1) (pc := 134) C dX10_atom_134 (by decide) ?_
            refine V_icmp_ne (tgt := 157) (pc := 135) C dX10_atom_135 (by decide) (fun h_135 => ?_) (fun h_135 => ?_)
            · refine V_aload_n (pc := 157) C 0 dX10_atom_157 rfl rfl ?_
              refine call_X10_201 (pc := 158) C (r_fail (d := d - 1) hG hB.1 hR) (by omega) (wg hG (by decide) (by decide)) (Nat.le_of_ble_eq_true rfl) dX10_atom_158 (fun M_158 h_158 => ?_)
              obtain ⟨f1, f2, f3⟩ := h_158
              refine V_iload_n (pc := 161) C 1 dX10_atom_161 rfl rfl ?_
              refine V_iret (pc := 162) C hr hlk dX10_atom_162 ⟨_, rfl, ?_⟩
              have n12 : ¬ (q.2.2.1 = 1 ∨ q.2.2.1 = 2) := fun e => e.elim (fun y => h_107 (num_v (e0 := e0) hR y).1) (fun y => h_135 (word_k hR y).1)
              rw [show gOneF f z (vA e0) ok ro re q = (rfQ q, (vA e0).2.1) by rw [gOneF, if_neg n12, if_neg h_8, if_neg h_43]]
              exact ⟨f1, f2.trans ho, f3, fun e => absurd e hrf⟩
            · refine V_aload_n (pc := 138) C 0 dX10_atom_138 rfl rfl ?_
              refine call_X10_243 (pc := 139) C (r_name (d := d - 1) hG (by omega) hB.1 hR (fun e => (word_k hR e).2)) (by omega) (wg hG (by decide) (by decide)) (Nat.le_of_ble_eq_true rfl) dX10_atom_139 (fun x_139 M_139 h_139 => ?_)
              obtain ⟨f1, f2⟩ := h_139
              refine Vs_istore_n (lv' := [(0, _), (1, _)]) (pc := 142) C dX10_atom_142 rfl (by decide) rfl rfl ?_
              refine V_aload_n (pc := 143) C 0 dX10_atom_143 rfl rfl ?_
              refine get_X10_187 (pc := 144) C (wg hG (by decide) (by decide)) dX10_atom_144 ?_
              refine V_if_ne (tgt := 161) (pc := 147) C dX10_atom_147 (by decide) (fun h_147 => ?_) (fun h_147 => ?_)
              · have h2n : ¬ q.2.2.1 = 2 := fun e => h_147 (by rw [(f1 e).1]; exact hbad)
                refine V_iload_n (pc := 161) C 1 dX10_atom_161 rfl rfl ?_
                refine V_iret (pc := 162) C hr hlk dX10_atom_162 ⟨_, rfl, ?_⟩
                have n12 : ¬ (q.2.2.1 = 1 ∨ q.2.2.1 = 2) := fun e => e.elim (fun y => absurd ((num_v (e0 := e0) hR y).1.symm.trans h_135) (by decide)) h2n
                rw [show gOneF f z (vA e0) ok ro re q = (rfQ q, (vA e0).2.1) by rw [gOneF, if_neg n12, if_neg h_8, if_neg h_43]]
                exact ⟨(f2 h2n).1, (f2 h2n).2.1.trans ho, (f2 h2n).2.2, fun e => absurd e hrf⟩
              · have h2y : q.2.2.1 = 2 := Decidable.byContradiction (fun e => hrf ((f2 e).2.2.bad.mp h_147))
                have hm1 : ¬ q.2.2.1 = -1 := fun e => absurd (h2y.symm.trans e) (by decide)
                obtain ⟨e_139, hx⟩ := f1 h2y
                subst e_139
                refine V_aload_n (pc := 150) C 0 dX10_atom_150 rfl rfl ?_
                refine call_X10_204 (pc := 151) C (r_next (d := d - 1) hG (by omega) hB.1 hR hnb hm1) (by omega) (wg hG (by decide) (by decide)) (Nat.le_of_ble_eq_true rfl) dX10_atom_151 (fun M_151 h_151 => ?_)
                obtain ⟨g1, g2, g3⟩ := h_151
                refine V_goto (tgt := 161) (pc := 154) C dX10_atom_154 (by decide) ?_
                refine V_iload_n (pc := 161) C 1 dX10_atom_161 rfl rfl ?_
                refine V_iret (pc := 162) C hr hlk dX10_atom_162 ⟨_, rfl, ?_⟩
                rw [show gOneF f z (vA e0) ok ro re q = (nxQ f z q, (vA e0).1 q.2.2.2.1) by rw [gOneF, if_pos (Or.inr h2y)]]
                refine ⟨g1, g2.trans ho, g3, fun _ => ?_⟩
                obtain ⟨_, i, i1, i6, hi⟩ := word_k hR h2y
                rw [hx, hi, nm_ix i i1 (by omega)]
                rw [vA_neg (nm_neg i i1 (by omega)), nm_ix i i1 (by omega), hB.2 (i - 1) (by omega)]
        · have h1y := num_k hR hnb h_107
          have hm1 : ¬ q.2.2.1 = -1 := fun e => absurd (h1y.symm.trans e) (by decide)
          refine V_aload_n (pc := 110) C 0 dX10_atom_110 rfl rfl ?_
          refine get_X10_183 (pc := 111) C (wg hG (by decide) (by decide)) dX10_atom_111 ?_
          refine V_l2i (pc := 114) C dX10_atom_114 ?_
          refine Vs_istore_n (lv' := [(0, _), (1, _)]) (pc := 115) C dX10_atom_115 rfl (by decide) rfl rfl ?_
          refine V_aload_n (pc := 116) C 0 dX10_atom_116 rfl rfl ?_
          refine call_X10_204 (pc := 117) C (r_next (d := d - 1) hG (by omega) hB.1 hR hnb hm1) (by omega) (wg hG (by decide) (by decide)) (Nat.le_of_ble_eq_true rfl) dX10_atom_117 (fun M_117 h_117 => ?_)
          obtain ⟨f1, f2, f3⟩ := h_117
          refine V_goto (tgt := 161) (pc := 120) C dX10_atom_120 (by decide) ?_
          refine V_iload_n (pc := 161) C 1 dX10_atom_161 rfl rfl ?_
          refine V_iret (pc := 162) C hr hlk dX10_atom_162 ⟨_, rfl, ?_⟩
          rw [show gOneF f z (vA e0) ok ro re q = (nxQ f z q, (vA e0).1 q.2.2.2.1) by rw [gOneF, if_pos (Or.inl h1y)]]
          exact ⟨f1, f2.trans ho, f3, fun _ => (num_v (e0 := e0) hR h1y).2⟩
    · have h_43 := bJ_1.mp h_43
      have hm1 : ¬ q.2.2.1 = -1 := fun e => absurd (h_43.symm.trans e) (by decide)
      have n12 : ¬ (q.2.2.1 = 1 ∨ q.2.2.1 = 2) := by rw [h_43]; decide
      have hn := nx_ok f hp
      refine V_aload_n (pc := 46) C 0 dX10_atom_46 rfl rfl ?_
      refine call_X10_232 (pc := 47) C (r_opens (d := d - 1) hG (by omega) hB.1 hR hnb hm1 ho ho5) (by omega) (wg hG (by decide) (by decide)) (Nat.le_of_ble_eq_true rfl) dX10_atom_47 (fun x_47 M_47 h_47 => ?_)
      obtain ⟨e_47, f1, f2, f3⟩ := h_47
      subst e_47
      refine V_if_eq (tgt := 161) (pc := 50) C dX10_atom_50 (by decide) (fun h_50 => ?_) (fun h_50 => ?_)
      · have h_50 := bJ_0.mp h_50
        rw [if_neg h_50] at f2 f3
        have hk : ¬ ok = true := fun e => h_50 (hok.mp e)
        refine V_iload_n (pc := 161) C 1 dX10_atom_161 rfl rfl ?_
        refine V_iret (pc := 162) C hr hlk dX10_atom_162 ⟨_, rfl, ?_⟩
        rw [show gOneF f z (vA e0) ok ro re q = (rfQ q, (vA e0).2.1) by rw [gOneF, if_neg n12, if_neg h_8, if_pos h_43, if_neg hk]]
        exact ⟨f1, f2, f3, fun e => absurd e hrf⟩
      · have h_50 := bJ_1.mp h_50
        rw [if_pos h_50] at f2 f3
        have hk : ok = true := hok.mpr h_50
        refine V_aload_n (pc := 53) C 0 dX10_atom_53 rfl rfl ?_
        refine call_X10_240 (pc := 54) C (h2 hk _ _ (hB.rr f1) f3 hnb hn.1 f2) (by omega) (wg hG (by decide) (by decide)) (Nat.le_of_ble_eq_true rfl) dX10_atom_54 (fun x_54 M_54 h_54 => ?_)
        obtain ⟨g1, g2, g3, g4⟩ := h_54
        refine Vs_istore_n (lv' := [(0, _), (1, _)]) (pc := 57) C dX10_atom_57 rfl (by decide) rfl rfl ?_
        refine V_aload_n (pc := 58) C 0 dX10_atom_58 rfl rfl ?_
        refine V_bipush (v := 41) (pc := 59) C dX10_atom_59 (by decide) ?_
        refine call_X10_229 (pc := 61) C (r_sign (d := d - 1) hG ((hB.rr f1).rr g1).1 g3 (v := 41) rfl) (by omega) (wg hG (by decide) (by decide)) (Nat.le_of_ble_eq_true rfl) dX10_atom_61 (fun x_61 M_61 h_61 => ?_)
        obtain ⟨e_61, rfl⟩ := h_61
        have e_61 := e_61.symm
        subst e_61
        refine V_if_ne (tgt := 71) (pc := 64) C dX10_atom_64 (by decide) (fun h_64 => ?_) (fun h_64 => ?_)
        · have h_64 := bJ_1.mp h_64
          have hm2 : ¬ (re (nxQ f z q)).1.2.2.1 = -1 := fun e => absurd (h_64.symm.trans e) (by decide)
          have hb2 := g3.nb hm2
          refine V_aload_n (pc := 71) C 0 dX10_atom_71 rfl rfl ?_
          refine V_dup (pc := 72) C dX10_atom_72 rfl ?_
          refine get_X10_198 (pc := 73) C (wg hG (by decide) (by decide)) dX10_atom_73 ?_
          refine V_iconst (v := 1) (pc := 76) C dX10_atom_76 (by decide) ?_
          refine V_isub (pc := 77) C dX10_atom_77 ?_
          refine put_X10_198 (pc := 78) C (wg hG (by decide) (by decide)) dX10_atom_78 ?_
          rw [g2, nI_pred]
          refine V_aload_n (pc := 81) C 0 dX10_atom_81 rfl rfl ?_
          refine get_X10_187 (pc := 82) C (wg hG (by decide) (by decide)) dX10_atom_82 ?_
          refine V_if_ne (tgt := 161) (pc := 85) C dX10_atom_85 (by decide) (fun h_85 => ?_) (fun h_85 => ?_)
          · rw [mset_at, if_neg (by omega), g3.bad.mpr hb2] at h_85
            exact absurd rfl h_85
          · refine V_aload_n (pc := 88) C 0 dX10_atom_88 rfl rfl ?_
            refine call_X10_204 (pc := 89) C (r_next (d := d - 1) hG (by omega) (((hB.rr f1).rr g1).rr (frR.set _ (by omega))).1 (g3.s34 (nI o)) hb2 hm2) (by omega) (wg hG (by decide) (by decide)) (Nat.le_of_ble_eq_true rfl) dX10_atom_89 (fun M_89 h_89 => ?_)
            obtain ⟨m1, m2, m3⟩ := h_89
            refine V_goto (tgt := 161) (pc := 92) C dX10_atom_92 (by decide) ?_
            refine V_iload_n (pc := 161) C 1 dX10_atom_161 rfl rfl ?_
            refine V_iret (pc := 162) C hr hlk dX10_atom_162 ⟨_, rfl, ?_⟩
            rw [show gOneF f z (vA e0) ok ro re q = (nxQ f z (re (nxQ f z q)).1, (re (nxQ f z q)).2) by rw [gOneF, if_neg n12, if_neg h_8, if_pos h_43, if_pos hk, exQ, if_pos h_64]]
            refine ⟨((f1.tr g1).tr (frR.set _ (by omega))).tr m1, ?_, m3, fun _ => g4 hb2⟩
            rw [m2, mset_at, if_pos ⟨rfl, rfl, rfl⟩]
        · have h_64 := bJ_0.mp h_64
          refine V_aload_n (pc := 67) C 0 dX10_atom_67 rfl rfl ?_
          refine call_X10_201 (pc := 68) C (r_fail (d := d - 1) hG ((hB.rr f1).rr g1).1 g3) (by omega) (wg hG (by decide) (by decide)) (Nat.le_of_ble_eq_true rfl) dX10_atom_68 (fun M_68 h_68 => ?_)
          obtain ⟨k1, k2, k3⟩ := h_68
          refine V_aload_n (pc := 71) C 0 dX10_atom_71 rfl rfl ?_
          refine V_dup (pc := 72) C dX10_atom_72 rfl ?_
          refine get_X10_198 (pc := 73) C (wg hG (by decide) (by decide)) dX10_atom_73 ?_
          refine V_iconst (v := 1) (pc := 76) C dX10_atom_76 (by decide) ?_
          refine V_isub (pc := 77) C dX10_atom_77 ?_
          refine put_X10_198 (pc := 78) C (wg hG (by decide) (by decide)) dX10_atom_78 ?_
          rw [k2, g2, nI_pred]
          refine V_aload_n (pc := 81) C 0 dX10_atom_81 rfl rfl ?_
          refine get_X10_187 (pc := 82) C (wg hG (by decide) (by decide)) dX10_atom_82 ?_
          refine V_if_ne (tgt := 161) (pc := 85) C dX10_atom_85 (by decide) (fun h_85 => ?_) (fun h_85 => ?_)
          · refine V_iload_n (pc := 161) C 1 dX10_atom_161 rfl rfl ?_
            refine V_iret (pc := 162) C hr hlk dX10_atom_162 ⟨_, rfl, ?_⟩
            rw [show gOneF f z (vA e0) ok ro re q = (rfQ (re (nxQ f z q)).1, (re (nxQ f z q)).2) by rw [gOneF, if_neg n12, if_neg h_8, if_pos h_43, if_pos hk, exQ, if_neg h_64]]
            refine ⟨((f1.tr g1).tr k1).tr (frR.set _ (by omega)), ?_, k3.s34 _, fun e => absurd e (rf_ok hz (hm2 hk _ hn.1).1).2⟩
            rw [mset_at, if_pos ⟨rfl, rfl, rfl⟩]
          · rw [mset_at, if_neg (by omega), k3.bad] at h_85
            exact absurd h_85 (rf_ok hz (hm2 hk _ hn.1).1).2
  · have h_8 := bJ_1.mp h_8
    have hm1 : ¬ q.2.2.1 = -1 := fun e => absurd (h_8.symm.trans e) (by decide)
    have n12 : ¬ (q.2.2.1 = 1 ∨ q.2.2.1 = 2) := by rw [h_8]; decide
    have hn := nx_ok f hp
    refine V_aload_n (pc := 11) C 0 dX10_atom_11 rfl rfl ?_
    refine call_X10_232 (pc := 12) C (r_opens (d := d - 1) hG (by omega) hB.1 hR hnb hm1 ho ho5) (by omega) (wg hG (by decide) (by decide)) (Nat.le_of_ble_eq_true rfl) dX10_atom_12 (fun x_12 M_12 h_12 => ?_)
    obtain ⟨e_12, f1, f2, f3⟩ := h_12
    subst e_12
    refine V_if_eq (tgt := 161) (pc := 15) C dX10_atom_15 (by decide) (fun h_15 => ?_) (fun h_15 => ?_)
    · have h_15 := bJ_0.mp h_15
      rw [if_neg h_15] at f2 f3
      have hk : ¬ ok = true := fun e => h_15 (hok.mp e)
      refine V_iload_n (pc := 161) C 1 dX10_atom_161 rfl rfl ?_
      refine V_iret (pc := 162) C hr hlk dX10_atom_162 ⟨_, rfl, ?_⟩
      rw [show gOneF f z (vA e0) ok ro re q = (rfQ q, (vA e0).2.1) by rw [gOneF, if_neg n12, if_pos h_8, if_neg hk]]
      exact ⟨f1, f2, f3, fun e => absurd e hrf⟩
    · have h_15 := bJ_1.mp h_15
      rw [if_pos h_15] at f2 f3
      have hk : ok = true := hok.mpr h_15
      refine V_aload_n (pc := 18) C 0 dX10_atom_18 rfl rfl ?_
      refine call_X10_236 (pc := 19) C (h1 hk _ _ (hB.rr f1) f3 hnb hn.1 f2) (by omega) (wg hG (by decide) (by decide)) (Nat.le_of_ble_eq_true rfl) dX10_atom_19 (fun x_19 M_19 h_19 => ?_)
      obtain ⟨g1, g2, g3, g4⟩ := h_19
      refine V_ineg (pc := 22) C dX10_atom_22 ?_
      refine Vs_istore_n (lv' := [(0, _), (1, _)]) (pc := 23) C dX10_atom_23 rfl (by decide) rfl rfl ?_
      refine V_aload_n (pc := 24) C 0 dX10_atom_24 rfl rfl ?_
      refine V_dup (pc := 25) C dX10_atom_25 rfl ?_
      refine get_X10_198 (pc := 26) C (wg hG (by decide) (by decide)) dX10_atom_26 ?_
      refine V_iconst (v := 1) (pc := 29) C dX10_atom_29 (by decide) ?_
      refine V_isub (pc := 30) C dX10_atom_30 ?_
      refine put_X10_198 (pc := 31) C (wg hG (by decide) (by decide)) dX10_atom_31 ?_
      rw [g2, nI_pred]
      refine V_goto (tgt := 161) (pc := 34) C dX10_atom_34 (by decide) ?_
      refine V_iload_n (pc := 161) C 1 dX10_atom_161 rfl rfl ?_
      refine V_iret (pc := 162) C hr hlk dX10_atom_162 ⟨_, rfl, ?_⟩
      rw [show gOneF f z (vA e0) ok ro re q = ((ro (nxQ f z q)).1, (vA e0).2.2.1 (-8) (ro (nxQ f z q)).2) by rw [gOneF, if_neg n12, if_pos h_8, if_pos hk]]
      refine ⟨(f1.tr g1).tr (frR.set _ (by omega)), ?_, g3.s34 _, fun e => ?_⟩
      · rw [mset_at, if_pos ⟨rfl, rfl, rfl⟩]
      · rw [g4 e]
        rfl
/-! the levels -/
theorem vv_ok (e : Nat → Int32) : gmA (vA e) (vA e) (fun _ _ => True) (fun _ => 0) := ⟨fun _ _ => trivial, fun _ => Nat.zero_le _, rfl, fun _ _ _ _ _ => trivial, fun _ _ => Nat.zero_le _, fun _ _ _ _ _ _ _ _ _ => trivial, fun _ _ _ => Nat.zero_le _⟩
theorem gm_mono {z : Nat} {H : rS → rS × Int32} (h : gmP z (fun _ _ => True) (fun _ => 0) H H) : mono z H := fun q hq => ⟨(h q hq).1, Nat.le_trans (Nat.le_add_right _ _) (h q hq).2.1⟩
theorem gm_lev2 {f : Nat → Int32} {z : Nat} (hz : z ≤ 160) (e : Nat → Int32) (k : Nat) : gmP z (fun _ _ => True) (fun _ => 0) (gLev f z (vA e) k).1 (gLev f z (vA e) k).1 ∧ gmP z (fun _ _ => True) (fun _ => 0) (gLev f z (vA e) k).2 (gLev f z (vA e) k).2 := gm_lev hz (vv_ok e) k
theorem rv_N (hG : 56 ≤ G) {F z o : Nat} (ho5 : o ≤ 5) (hz : z ≤ 160) {f e0 : Nat → Int32} {ok : Bool} (hok : ok = true ↔ o < 5) {one rn : rS → rS × Int32} (hd : 7 ≤ d) (h1 : RV l D cy ad G (d - 3) yX10_atom cX10_atom 2 F z f e0 o one) (hm : gmP z (fun _ _ => True) (fun _ => 0) one one) (h2 : ok = true → RV l D cy ad G (d - 1) yX10_not cX10_not 4 F z f e0 (o + 1) rn) : RV l D cy ad G d yX10_not cX10_not 4 F z f e0 o (gNotF f z (vA e0) ok rn one) := by
  have m1 : gmP z (fun _ _ => True) (fun _ => 0) (gTerm f z (vA e0) one) (gTerm f z (vA e0) one) := gm_lp (vv_ok e0) op42_r hm
  have m2 : gmP z (fun _ _ => True) (fun _ => 0) (gSum f z (vA e0) one) (gSum f z (vA e0) one) := gm_lp (vv_ok e0) opPM_r m1
  have a1 : RV l D cy ad G (d - 2) yX10_term cX10_term 2 F z f e0 o (gTerm f z (vA e0) one) := rv_term hG (by omega) (by rw [show d - 2 - 1 = d - 3 by omega]; exact h1) (gm_mono hm)
  have a2 : RV l D cy ad G (d - 1) yX10_added cX10_added 4 F z f e0 o (gSum f z (vA e0) one) := rv_added hG (by omega) (by rw [show d - 1 - 1 = d - 2 by omega]; exact a1) (gm_mono m1)
  exact rv_not hG hd ho5 hok a2 (gm_mono m2) h2
theorem rv_E (hG : 56 ≤ G) {F z o : Nat} {f e0 : Nat → Int32} {nt : rS → rS × Int32} (hd : 9 ≤ d) (h1 : RV l D cy ad G (d - 2) yX10_not cX10_not 4 F z f e0 o nt) (hm : gmP z (fun _ _ => True) (fun _ => 0) nt nt) : RV l D cy ad G d yX10_either cX10_either 3 F z f e0 o (gE f z (vA e0) nt) := by
  have m1 : gmP z (fun _ _ => True) (fun _ => 0) (gAnd f z (vA e0) nt) (gAnd f z (vA e0) nt) := gm_lp (vv_ok e0) op7_r hm
  have a1 : RV l D cy ad G (d - 1) yX10_both cX10_both 3 F z f e0 o (gAnd f z (vA e0) nt) := rv_both hG (by omega) (by rw [show d - 1 - 1 = d - 2 by omega]; exact h1) (gm_mono hm)
  exact rv_either hG hd a1 (gm_mono m1)
theorem rv_lev (hG : 56 ≤ G) {F z : Nat} (hz : z ≤ 160) (f e0 : Nat → Int32) : ∀ k, k ≤ 5 → (∀ d, 4 + 6 * k ≤ d → RV l D cy ad G d yX10_atom cX10_atom 2 F z f e0 (5 - k) (gLev f z (vA e0) k).1) ∧ ∀ d, 7 + 6 * k ≤ d → RV l D cy ad G d yX10_not cX10_not 4 F z f e0 (5 - k) (gLev f z (vA e0) k).2 := by
  intro k
  induction k with
  | zero =>
    intro _
    have h0 : (false = true) ↔ 5 - 0 < 5 := by decide
    have a1 : ∀ d, 4 + 6 * 0 ≤ d → RV l D cy ad G d yX10_atom cX10_atom 2 F z f e0 (5 - 0) (gLev f z (vA e0) 0).1 := fun d hd => rv_atom (ro := fun q => (q, (vA e0).2.1)) (re := fun q => (q, (vA e0).2.1)) hG (by omega) (by decide) h0 (fun e => absurd e (by decide)) (fun e => absurd e (by decide)) (fun e => absurd e (by decide))
    exact ⟨a1, fun d hd => rv_N (rn := fun q => (q, (vA e0).2.1)) hG (by decide) hz h0 (by omega) (a1 (d - 3) (by omega)) (gm_lev2 hz e0 0).1 (fun e => absurd e (by decide))⟩
  | succ k ih =>
    intro hk
    obtain ⟨b1, b2⟩ := ih (by omega)
    have h0 : (true = true) ↔ 5 - (k + 1) < 5 := ⟨fun _ => by omega, fun _ => rfl⟩
    have e1 : 5 - (k + 1) + 1 = 5 - k := by omega
    have hmE : mono z (gE f z (vA e0) (gLev f z (vA e0) k).2) := gm_mono (gm_E (vv_ok e0) (gm_lev2 hz e0 k).2)
    have a1 : ∀ d, 4 + 6 * (k + 1) ≤ d → RV l D cy ad G d yX10_atom cX10_atom 2 F z f e0 (5 - (k + 1)) (gLev f z (vA e0) (k + 1)).1 := fun d hd => rv_atom hG (by omega) (by omega) h0 (fun _ => by rw [e1]; exact b1 (d - 1) (by omega)) (fun _ => by rw [e1]; exact rv_E hG (by omega) (b2 (d - 1 - 2) (by omega)) (gm_lev2 hz e0 k).2) (fun _ => hmE)
    exact ⟨a1, fun d hd => rv_N hG (by omega) hz h0 (by omega) (a1 (d - 3) (by omega)) (gm_lev2 hz e0 (k + 1)).1 (fun _ => by rw [e1]; exact b2 (d - 1) (by omega))⟩
theorem rv_E5 (hG : 56 ≤ G) {F z : Nat} (hz : z ≤ 160) (f e0 : Nat → Int32) (hd : 39 ≤ d) : RV l D cy ad G d yX10_either cX10_either 3 F z f e0 0 (gE f z (vA e0) (gLev f z (vA e0) 5).2) :=
  rv_E hG (by omega) ((rv_lev (l := l) (D := D) (cy := cy) (ad := ad) hG hz f e0 5 (by omega)).2 (d - 2) (by omega)) (gm_lev2 hz e0 5).2
end S54
