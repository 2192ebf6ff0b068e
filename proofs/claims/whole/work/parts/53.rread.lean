section S53
variable {l : Launch} {D : va_G} {cy : Nat → ClassId} {ad : Nat → Nat → Nat} {G d : Nat}
/-- what stands around a reading: the bytes, the names' values -/
def rB (M : wS) (F z : Nat) (f e : Nat → Int32) : Prop := rE M F z f ∧ ∀ j, j < 6 → M.1 30 0 (22 + j) = e j
theorem rB.rr {M M' : wS} {F z : Nat} {f e : Nat → Int32} (h : frR M M') (hB : rB M F z f e) : rB M' F z f e := ⟨hB.1.rr h, fun j hj => by rw [h.2 (22 + j) (by omega)]; exact hB.2 j hj⟩
/-- a method of the reference reads as the pure H does -/
def RV (l : Launch) (D : va_G) (cy : Nat → ClassId) (ad : Nat → Nat → Nat) (G d : Nat) (y : MethodName) (cc : ByteArray) (nL : Nat) (F z : Nat) (f e : Nat → Int32) (o : Nat) (H : rS → rS × Int32) : Prop :=
  ∀ (M : wS) (q : rS), rB M F z f e → rfS M f z q → q.2.2.2.2 = -1 → pok z q → M.1 30 0 34 = nI o → Ctr l D cy ad G d y cc nL (some .int) [.ref (ad 30 0)] M (rI fun x M' => frR M M' ∧ M'.1 30 0 34 = nI o ∧ rfS M' f z (H q).1 ∧ ((H q).1.2.2.2.2 = -1 → x = (H q).2))
def mono (z : Nat) (H : rS → rS × Int32) : Prop := ∀ q, pok z q → pok z (H q).1 ∧ q.2.1 ≤ (H q).1.2.1
theorem rfS.nb {M : wS} {f : Nat → Int32} {z : Nat} {q : rS} (h : rfS M f z q) (ht : ¬ q.2.2.1 = -1) : q.2.2.2.2 = -1 := by
  rcases h with ⟨a, _⟩ | ⟨_, b, _⟩
  · exact a
  · exact absurd b ht
theorem sign_w {M : wS} {f : Nat → Int32} {z : Nat} {q : rS} (h : rfS M f z q) {v : Int32} (hv : pSign v = true) (ht : q.2.2.1 = v) : M.2 = v.toInt64 := by
  have nm : ¬ (-1 : Int32) = v := fun e => by rw [← e] at hv; exact absurd hv (by decide)
  rcases h with ⟨a1, a2, a3, a4⟩ | ⟨_, b, _⟩
  · have hs := tok_sign (f := f) (z := z) (q := q.2.1) hv
    rw [a4] at hs
    have h2 := hs.mpr ht
    rw [a3.2.2.2.2.1 h2.1, h2.2]
  · exact absurd (b.symm.trans ht) nm
theorem wq_hi {i : Nat} (h : ¬ i ≤ 6) {tok pc : Int32} : wq i tok pc ↔ tok = nI (i - 4) := by
  unfold wq
  rw [if_neg h]
theorem lp_X10_term {p : Program} {e : Env} {s : State} {m : MethodId} {args : Array Value} {below : List Frame} {meth : Method} {c : Code} (C : CX p s m args c cX10_term 2 "CostsAgeModel" D cy ad G (wA ad G) (Rm d) d 0 0) (hr : meth.sig.returnType = (some .int)) (hlk : meth.locks = false) (hG : 56 ≤ G) (hd : 5 ≤ d) {F z o : Nat} {f e0 : Nat → Int32} {one : rS → rS × Int32} (h1 : RV l D cy ad G (d - 1) yX10_atom cX10_atom 2 F z f e0 o one) (hm : mono z one) (M0 : wS) (hB : rB M0 F z f e0) (Qf : Int32 → wS → Prop) : ∀ (n : Nat) (M : wS) (r : rS × Int32) (v : Int32), frR M0 M → M.1 30 0 34 = nI o → rfS M f z r.1 → pok z r.1 → (r.1.2.2.2.2 = -1 → v = r.2) → z ≤ r.1.2.1 + n → (∀ M' x, frR M0 M' → M'.1 30 0 34 = nI o → rfS M' f z (gLoop f z (vA e0) op42 cd42 one n r).1 → ((gLoop f z (vA e0) op42 cd42 one n r).1.2.2.2.2 = -1 → x = (gLoop f z (vA e0) op42 cd42 one n r).2) → Qf x M') → V p l e (Rm d) s m args below meth c 2 D cy ad G (wA ad G) 0 0 (MQ below (wQ D cy ad G (rI Qf)) args s 0 0 (wA ad G)) 5 [(0, .ref (ad 30 0)), (1, .int v)] [] M := by
  intro n
  induction n with
  | zero =>
    intro M r v hF ho hR hp hv hz hQ
    refine V_aload_n (pc := 5) C 0 dX10_term_5 rfl rfl ?_
    refine V_bipush (v := 42) (pc := 6) C dX10_term_6 (by decide) ?_
    refine call_X10_229 (pc := 8) C (r_sign (d := d - 1) hG (hB.rr hF).1 hR (v := 42) rfl) (by omega) (wg hG (by decide) (by decide)) (Nat.le_of_ble_eq_true rfl) dX10_term_8 (fun x_8 M_8 h_8 => ?_)
    obtain ⟨e_8, rfl⟩ := h_8
    have e_8 := e_8.symm
    subst e_8
    refine V_if_eq (tgt := 28) (pc := 11) C dX10_term_11 (by decide) (fun h_11 => ?_) (fun h_11 => ?_)
    · have h_11 := bJ_0.mp h_11
      refine V_iload_n (pc := 28) C 1 dX10_term_28 rfl rfl ?_
      refine V_iret (pc := 29) C hr hlk dX10_term_29 ⟨_, rfl, ?_⟩
      exact hQ _ _ hF ho hR hv
    · have h_11 := bJ_1.mp h_11
      have a1 := hp.2.2.1 (by rw [h_11]; decide)
      have a2 := hp.2.1
      exact absurd a1 (by omega)
  | succ n ih =>
    intro M r v hF ho hR hp hv hz hQ
    refine V_aload_n (pc := 5) C 0 dX10_term_5 rfl rfl ?_
    refine V_bipush (v := 42) (pc := 6) C dX10_term_6 (by decide) ?_
    refine call_X10_229 (pc := 8) C (r_sign (d := d - 1) hG (hB.rr hF).1 hR (v := 42) rfl) (by omega) (wg hG (by decide) (by decide)) (Nat.le_of_ble_eq_true rfl) dX10_term_8 (fun x_8 M_8 h_8 => ?_)
    obtain ⟨e_8, rfl⟩ := h_8
    have e_8 := e_8.symm
    subst e_8
    refine V_if_eq (tgt := 28) (pc := 11) C dX10_term_11 (by decide) (fun h_11 => ?_) (fun h_11 => ?_)
    · have h_11 := bJ_0.mp h_11
      have hop : ¬ op42 r.1.2.2.1 = true := fun e => h_11 (by simpa [op42] using e)
      refine V_iload_n (pc := 28) C 1 dX10_term_28 rfl rfl ?_
      refine V_iret (pc := 29) C hr hlk dX10_term_29 ⟨_, rfl, ?_⟩
      exact hQ _ _ hF ho (by rw [gLoop_n hop]; exact hR) (by rw [gLoop_n hop]; exact hv)
    · have h_11 := bJ_1.mp h_11
      have hop : op42 r.1.2.2.1 = true := by simp [op42, h_11]
      have hm1 : ¬ r.1.2.2.1 = -1 := fun e => absurd (h_11.symm.trans e) (by decide)
      have hnb := hR.nb hm1
      have a1 := hp.2.2.1 (by rw [h_11]; decide)
      have hn := nx_ok f hp
      have hs := hm _ hn.1
      refine V_aload_n (pc := 14) C 0 dX10_term_14 rfl rfl ?_
      refine call_X10_204 (pc := 15) C (r_next (d := d - 1) hG (by omega) (hB.rr hF).1 hR hnb hm1) (by omega) (wg hG (by decide) (by decide)) (Nat.le_of_ble_eq_true rfl) dX10_term_15 (fun M_15 h_15 => ?_)
      obtain ⟨f1, f2, f3⟩ := h_15
      refine V_iload_n (pc := 18) C 1 dX10_term_18 rfl rfl ?_
      refine V_aload_n (pc := 19) C 0 dX10_term_19 rfl rfl ?_
      refine call_X10_236 (pc := 20) C (h1 _ _ ((hB.rr hF).rr f1) f3 hnb hn.1 (f2.trans ho)) (by omega) (wg hG (by decide) (by decide)) (Nat.le_of_ble_eq_true rfl) dX10_term_20 (fun x_20 M_20 h_20 => ?_)
      obtain ⟨f4, f5, f6, f7⟩ := h_20
      refine V_imul (pc := 23) C dX10_term_23 ?_
      refine Vs_istore_n (lv' := [(0, _), (1, _)]) (pc := 24) C dX10_term_24 rfl (by decide) rfl rfl ?_
      refine V_goto (tgt := 5) (pc := 25) C dX10_term_25 (by decide) ?_
      refine ih _ ((one (nxQ f z r.1)).1, (vA e0).2.2.2 (cd42 r.1.2.2.1) r.2 (one (nxQ f z r.1)).2) _ ((hF.tr f1).tr f4) f5 f6 hs.1 ?_ ?_ ?_
      · intro e
        rw [hv hnb, f7 e]
        rfl
      · have := hn.2
        have := hs.2
        show z ≤ (one (nxQ f z r.1)).1.2.1 + n
        omega
      · intro M' x q1 q2 q3 q4
        exact hQ M' x q1 q2 (by rw [gLoop_y hop]; exact q3) (by rw [gLoop_y hop]; exact q4)
theorem rv_term (hG : 56 ≤ G) (hd : 5 ≤ d) {F z o : Nat} {f e0 : Nat → Int32} {one : rS → rS × Int32} (h1 : RV l D cy ad G (d - 1) yX10_atom cX10_atom 2 F z f e0 o one) (hm : mono z one) : RV l D cy ad G d yX10_term cX10_term 2 F z f e0 o (gTerm f z (vA e0) one) := by
  intro M q hB hR hnb hp ho
  have hz := hB.1.2.2.1
  have hs := hm q hp
  refine Ctr.of (lv0 := [(0, _)]) (by decide) (Nat.le_of_ble_eq_true rfl) rfl ?_
  intro p e s m args below meth c C hr hlk _
  have C : CX p s m args c cX10_term 2 "CostsAgeModel" D cy ad G (wA ad G) (Rm d) d 0 0 := C
  refine V_aload_n (pc := 0) C 0 dX10_term_0 rfl rfl ?_
  refine call_X10_236 (pc := 1) C (h1 _ _ hB hR hnb hp ho) (by omega) (wg hG (by decide) (by decide)) (Nat.le_of_ble_eq_true rfl) dX10_term_1 (fun x_1 M_1 h_1 => ?_)
  obtain ⟨f4, f5, f6, f7⟩ := h_1
  refine Vs_istore_n (lv' := [(0, _), (1, _)]) (pc := 4) C dX10_term_4 rfl (by decide) rfl rfl ?_
  exact lp_X10_term C hr hlk hG hd h1 hm M hB _ 160 _ (one q) _ f4 f5 f6 hs.1 f7 (by omega) (fun M' x q1 q2 q3 q4 => ⟨q1, q2, q3, q4⟩)
theorem lp_X10_added {p : Program} {e : Env} {s : State} {m : MethodId} {args : Array Value} {below : List Frame} {meth : Method} {c : Code} (C : CX p s m args c cX10_added 4 "CostsAgeModel" D cy ad G (wA ad G) (Rm d) d 0 0) (hr : meth.sig.returnType = (some .int)) (hlk : meth.locks = false) (hG : 56 ≤ G) (hd : 6 ≤ d) {F z o : Nat} {f e0 : Nat → Int32} {one : rS → rS × Int32} (h1 : RV l D cy ad G (d - 1) yX10_term cX10_term 2 F z f e0 o one) (hm : mono z one) (M0 : wS) (hB : rB M0 F z f e0) (Qf : Int32 → wS → Prop) : ∀ (n : Nat) (M : wS) (r : rS × Int32) (v : Int32), frR M0 M → M.1 30 0 34 = nI o → rfS M f z r.1 → pok z r.1 → (r.1.2.2.2.2 = -1 → v = r.2) → z ≤ r.1.2.1 + n → (∀ M' x, frR M0 M' → M'.1 30 0 34 = nI o → rfS M' f z (gLoop f z (vA e0) opPM cdPM one n r).1 → ((gLoop f z (vA e0) opPM cdPM one n r).1.2.2.2.2 = -1 → x = (gLoop f z (vA e0) opPM cdPM one n r).2) → Qf x M') → V p l e (Rm d) s m args below meth c 4 D cy ad G (wA ad G) 0 0 (MQ below (wQ D cy ad G (rI Qf)) args s 0 0 (wA ad G)) 5 [(0, .ref (ad 30 0)), (1, .int v)] [] M := by
  intro n
  induction n with
  | zero =>
    intro M r v hF ho hR hp hv hz hQ
    have a2 := hp.2.1
    refine V_aload_n (pc := 5) C 0 dX10_added_5 rfl rfl ?_
    refine V_bipush (v := 43) (pc := 6) C dX10_added_6 (by decide) ?_
    refine call_X10_229 (pc := 8) C (r_sign (d := d - 1) hG (hB.rr hF).1 hR (v := 43) rfl) (by omega) (wg hG (by decide) (by decide)) (Nat.le_of_ble_eq_true rfl) dX10_added_8 (fun x_8 M_8 h_8 => ?_)
    obtain ⟨e_8, rfl⟩ := h_8
    have e_8 := e_8.symm
    subst e_8
    refine V_if_ne (tgt := 23) (pc := 11) C dX10_added_11 (by decide) (fun h_11 => ?_) (fun h_11 => ?_)
    · have h_11 := bJ_1.mp h_11
      have a1 := hp.2.2.1 (by rw [h_11]; decide)
      exact absurd a1 (by omega)
    · have h_11 := bJ_0.mp h_11
      refine V_aload_n (pc := 14) C 0 dX10_added_14 rfl rfl ?_
      refine V_bipush (v := 45) (pc := 15) C dX10_added_15 (by decide) ?_
      refine call_X10_229 (pc := 17) C (r_sign (d := d - 1) hG (hB.rr hF).1 hR (v := 45) rfl) (by omega) (wg hG (by decide) (by decide)) (Nat.le_of_ble_eq_true rfl) dX10_added_17 (fun x_17 M_17 h_17 => ?_)
      obtain ⟨e_17, rfl⟩ := h_17
      have e_17 := e_17.symm
      subst e_17
      refine V_if_eq (tgt := 66) (pc := 20) C dX10_added_20 (by decide) (fun h_20 => ?_) (fun h_20 => ?_)
      · have h_20 := bJ_0.mp h_20
        refine V_iload_n (pc := 66) C 1 dX10_added_66 rfl rfl ?_
        refine V_iret (pc := 67) C hr hlk dX10_added_67 ⟨_, rfl, ?_⟩
        exact hQ _ _ hF ho hR hv
      · have h_20 := bJ_1.mp h_20
        have a1 := hp.2.2.1 (by rw [h_20]; decide)
        exact absurd a1 (by omega)
  | succ n ih =>
    intro M r v hF ho hR hp hv hz hQ
    refine V_aload_n (pc := 5) C 0 dX10_added_5 rfl rfl ?_
    refine V_bipush (v := 43) (pc := 6) C dX10_added_6 (by decide) ?_
    refine call_X10_229 (pc := 8) C (r_sign (d := d - 1) hG (hB.rr hF).1 hR (v := 43) rfl) (by omega) (wg hG (by decide) (by decide)) (Nat.le_of_ble_eq_true rfl) dX10_added_8 (fun x_8 M_8 h_8 => ?_)
    obtain ⟨e_8, rfl⟩ := h_8
    have e_8 := e_8.symm
    subst e_8
    refine V_if_ne (tgt := 23) (pc := 11) C dX10_added_11 (by decide) (fun h_11 => ?_) (fun h_11 => ?_)
    · have h_11 := bJ_1.mp h_11
      have hop : opPM r.1.2.2.1 = true := opPM_t.mpr (Or.inl h_11)
      have hcd : cdPM r.1.2.2.1 = -13 := by rw [cdPM, if_pos h_11]
      have hm1 : ¬ r.1.2.2.1 = -1 := fun e => absurd (h_11.symm.trans e) (by decide)
      have hnb := hR.nb hm1
      have a1 := hp.2.2.1 (by rw [h_11]; decide)
      have hn := nx_ok f hp
      have hs := hm _ hn.1
      have hw := sign_w hR (v := 43) rfl h_11
      refine V_aload_n (pc := 23) C 0 dX10_added_23 rfl rfl ?_
      refine get_X10_183 (pc := 24) C (wg hG (by decide) (by decide)) dX10_added_24 ?_
      refine V_ldc2 (pc := 27) C dX10_added_27 qk_X10_249 ?_
      refine V_lcmp (pc := 30) C dX10_added_30 ?_
      refine V_if_ne (tgt := 38) (pc := 31) C dX10_added_31 (by decide) (fun h_31 => ?_) (fun h_31 => ?_)
      · rw [hw] at h_31
        exact absurd (show lg_cmp ((43 : Int32).toInt64) 43 = 0 by decide) h_31
      · refine V_iconst (v := 1) (pc := 34) C dX10_added_34 (by decide) ?_
        refine V_goto (tgt := 39) (pc := 35) C dX10_added_35 (by decide) ?_
        refine Vs_istore_n (lv' := [(0, _), (1, _), (2, _)]) (pc := 39) C dX10_added_39 rfl (by decide) rfl rfl ?_
        refine V_aload_n (pc := 40) C 0 dX10_added_40 rfl rfl ?_
        refine call_X10_204 (pc := 41) C (r_next (d := d - 1) hG (by omega) (hB.rr hF).1 hR hnb hm1) (by omega) (wg hG (by decide) (by decide)) (Nat.le_of_ble_eq_true rfl) dX10_added_41 (fun M_41 h_41 => ?_)
        obtain ⟨f1, f2, f3⟩ := h_41
        refine V_aload_n (pc := 44) C 0 dX10_added_44 rfl rfl ?_
        refine call_X10_246 (pc := 45) C (h1 _ _ ((hB.rr hF).rr f1) f3 hnb hn.1 (f2.trans ho)) (by omega) (wg hG (by decide) (by decide)) (Nat.le_of_ble_eq_true rfl) dX10_added_45 (fun x_45 M_45 h_45 => ?_)
        obtain ⟨f4, f5, f6, f7⟩ := h_45
        refine Vs_istore_n (lv' := [(0, _), (1, _), (2, _), (3, _)]) (pc := 48) C dX10_added_48 rfl (by decide) rfl rfl ?_
        refine V_iload_n (pc := 49) C 2 dX10_added_49 rfl rfl ?_
        refine V_if_eq (tgt := 59) (pc := 50) C dX10_added_50 (by decide) (fun h => absurd h (by decide)) (fun _ => ?_)
        refine V_iload_n (pc := 53) C 1 dX10_added_53 rfl rfl ?_
        refine V_iload_n (pc := 54) C 3 dX10_added_54 rfl rfl ?_
        refine V_iadd (pc := 55) C dX10_added_55 ?_
        refine V_goto (tgt := 62) (pc := 56) C dX10_added_56 (by decide) ?_
        refine Vs_istore_n (lv' := [(0, _), (1, _), (2, _), (3, _)]) (pc := 62) C dX10_added_62 rfl (by decide) rfl rfl ?_
        refine V_goto (tgt := 5) (pc := 63) C dX10_added_63 (by decide) ?_
        refine V_loc (lv' := [(0, _), (1, _)]) [0, 1] rfl ?_
        refine ih _ ((one (nxQ f z r.1)).1, (vA e0).2.2.2 (cdPM r.1.2.2.1) r.2 (one (nxQ f z r.1)).2) _ ((hF.tr f1).tr f4) f5 f6 hs.1 ?_ ?_ ?_
        · intro e
          rw [hv hnb, f7 e, hcd]
          rfl
        · have := hn.2
          have := hs.2
          show z ≤ (one (nxQ f z r.1)).1.2.1 + n
          omega
        · intro M' x q1 q2 q3 q4
          exact hQ M' x q1 q2 (by rw [gLoop_y hop]; exact q3) (by rw [gLoop_y hop]; exact q4)
    · have h_11 := bJ_0.mp h_11
      refine V_aload_n (pc := 14) C 0 dX10_added_14 rfl rfl ?_
      refine V_bipush (v := 45) (pc := 15) C dX10_added_15 (by decide) ?_
      refine call_X10_229 (pc := 17) C (r_sign (d := d - 1) hG (hB.rr hF).1 hR (v := 45) rfl) (by omega) (wg hG (by decide) (by decide)) (Nat.le_of_ble_eq_true rfl) dX10_added_17 (fun x_17 M_17 h_17 => ?_)
      obtain ⟨e_17, rfl⟩ := h_17
      have e_17 := e_17.symm
      subst e_17
      refine V_if_eq (tgt := 66) (pc := 20) C dX10_added_20 (by decide) (fun h_20 => ?_) (fun h_20 => ?_)
      · have h_20 := bJ_0.mp h_20
        have hop : ¬ opPM r.1.2.2.1 = true := fun e => (opPM_t.mp e).elim h_11 h_20
        refine V_iload_n (pc := 66) C 1 dX10_added_66 rfl rfl ?_
        refine V_iret (pc := 67) C hr hlk dX10_added_67 ⟨_, rfl, ?_⟩
        exact hQ _ _ hF ho (by rw [gLoop_n hop]; exact hR) (by rw [gLoop_n hop]; exact hv)
      · have h_20 := bJ_1.mp h_20
        have hop : opPM r.1.2.2.1 = true := opPM_t.mpr (Or.inr h_20)
        have hcd : cdPM r.1.2.2.1 = -14 := by rw [cdPM, if_neg h_11]
        have hm1 : ¬ r.1.2.2.1 = -1 := fun e => absurd (h_20.symm.trans e) (by decide)
        have hnb := hR.nb hm1
        have a1 := hp.2.2.1 (by rw [h_20]; decide)
        have hn := nx_ok f hp
        have hs := hm _ hn.1
        have hw := sign_w hR (v := 45) rfl h_20
        refine V_aload_n (pc := 23) C 0 dX10_added_23 rfl rfl ?_
        refine get_X10_183 (pc := 24) C (wg hG (by decide) (by decide)) dX10_added_24 ?_
        refine V_ldc2 (pc := 27) C dX10_added_27 qk_X10_249 ?_
        refine V_lcmp (pc := 30) C dX10_added_30 ?_
        refine V_if_ne (tgt := 38) (pc := 31) C dX10_added_31 (by decide) (fun h_31 => ?_) (fun h_31 => ?_)
        · refine V_iconst (v := 0) (pc := 38) C dX10_added_38 (by decide) ?_
          refine Vs_istore_n (lv' := [(0, _), (1, _), (2, _)]) (pc := 39) C dX10_added_39 rfl (by decide) rfl rfl ?_
          refine V_aload_n (pc := 40) C 0 dX10_added_40 rfl rfl ?_
          refine call_X10_204 (pc := 41) C (r_next (d := d - 1) hG (by omega) (hB.rr hF).1 hR hnb hm1) (by omega) (wg hG (by decide) (by decide)) (Nat.le_of_ble_eq_true rfl) dX10_added_41 (fun M_41 h_41 => ?_)
          obtain ⟨f1, f2, f3⟩ := h_41
          refine V_aload_n (pc := 44) C 0 dX10_added_44 rfl rfl ?_
          refine call_X10_246 (pc := 45) C (h1 _ _ ((hB.rr hF).rr f1) f3 hnb hn.1 (f2.trans ho)) (by omega) (wg hG (by decide) (by decide)) (Nat.le_of_ble_eq_true rfl) dX10_added_45 (fun x_45 M_45 h_45 => ?_)
          obtain ⟨f4, f5, f6, f7⟩ := h_45
          refine Vs_istore_n (lv' := [(0, _), (1, _), (2, _), (3, _)]) (pc := 48) C dX10_added_48 rfl (by decide) rfl rfl ?_
          refine V_iload_n (pc := 49) C 2 dX10_added_49 rfl rfl ?_
          refine V_if_eq (tgt := 59) (pc := 50) C dX10_added_50 (by decide) (fun _ => ?_) (fun h => absurd (by decide) h)
          refine V_iload_n (pc := 59) C 1 dX10_added_59 rfl rfl ?_
          refine V_iload_n (pc := 60) C 3 dX10_added_60 rfl rfl ?_
          refine V_isub (pc := 61) C dX10_added_61 ?_
          refine Vs_istore_n (lv' := [(0, _), (1, _), (2, _), (3, _)]) (pc := 62) C dX10_added_62 rfl (by decide) rfl rfl ?_
          refine V_goto (tgt := 5) (pc := 63) C dX10_added_63 (by decide) ?_
          refine V_loc (lv' := [(0, _), (1, _)]) [0, 1] rfl ?_
          refine ih _ ((one (nxQ f z r.1)).1, (vA e0).2.2.2 (cdPM r.1.2.2.1) r.2 (one (nxQ f z r.1)).2) _ ((hF.tr f1).tr f4) f5 f6 hs.1 ?_ ?_ ?_
          · intro e
            rw [hv hnb, f7 e, hcd]
            rfl
          · have := hn.2
            have := hs.2
            show z ≤ (one (nxQ f z r.1)).1.2.1 + n
            omega
          · intro M' x q1 q2 q3 q4
            exact hQ M' x q1 q2 (by rw [gLoop_y hop]; exact q3) (by rw [gLoop_y hop]; exact q4)
        · rw [hw] at h_31
          exact absurd h_31 (by decide)
theorem rv_added (hG : 56 ≤ G) (hd : 6 ≤ d) {F z o : Nat} {f e0 : Nat → Int32} {one : rS → rS × Int32} (h1 : RV l D cy ad G (d - 1) yX10_term cX10_term 2 F z f e0 o (gTerm f z (vA e0) one)) (hm : mono z (gTerm f z (vA e0) one)) : RV l D cy ad G d yX10_added cX10_added 4 F z f e0 o (gSum f z (vA e0) one) := by
  intro M q hB hR hnb hp ho
  have hz := hB.1.2.2.1
  have hs := hm q hp
  refine Ctr.of (lv0 := [(0, _)]) (by decide) (Nat.le_of_ble_eq_true rfl) rfl ?_
  intro p e s m args below meth c C hr hlk _
  have C : CX p s m args c cX10_added 4 "CostsAgeModel" D cy ad G (wA ad G) (Rm d) d 0 0 := C
  refine V_aload_n (pc := 0) C 0 dX10_added_0 rfl rfl ?_
  refine call_X10_246 (pc := 1) C (h1 _ _ hB hR hnb hp ho) (by omega) (wg hG (by decide) (by decide)) (Nat.le_of_ble_eq_true rfl) dX10_added_1 (fun x_1 M_1 h_1 => ?_)
  obtain ⟨f4, f5, f6, f7⟩ := h_1
  refine Vs_istore_n (lv' := [(0, _), (1, _)]) (pc := 4) C dX10_added_4 rfl (by decide) rfl rfl ?_
  exact lp_X10_added C hr hlk hG hd h1 hm M hB _ 160 _ (gTerm f z (vA e0) one q) _ f4 f5 f6 hs.1 f7 (by omega) (fun M' x q1 q2 q3 q4 => ⟨q1, q2, q3, q4⟩)
theorem lp_X10_both {p : Program} {e : Env} {s : State} {m : MethodId} {args : Array Value} {below : List Frame} {meth : Method} {c : Code} (C : CX p s m args c cX10_both 3 "CostsAgeModel" D cy ad G (wA ad G) (Rm d) d 0 0) (hr : meth.sig.returnType = (some .int)) (hlk : meth.locks = false) (hG : 56 ≤ G) (hd : 8 ≤ d) {F z o : Nat} {f e0 : Nat → Int32} {one : rS → rS × Int32} (h1 : RV l D cy ad G (d - 1) yX10_not cX10_not 4 F z f e0 o one) (hm : mono z one) (M0 : wS) (hB : rB M0 F z f e0) (Qf : Int32 → wS → Prop) : ∀ (n : Nat) (M : wS) (r : rS × Int32) (v : Int32), frR M0 M → M.1 30 0 34 = nI o → rfS M f z r.1 → pok z r.1 → (r.1.2.2.2.2 = -1 → v = r.2) → z ≤ r.1.2.1 + n → (∀ M' x, frR M0 M' → M'.1 30 0 34 = nI o → rfS M' f z (gLoop f z (vA e0) op7 cd7 one n r).1 → ((gLoop f z (vA e0) op7 cd7 one n r).1.2.2.2.2 = -1 → x = (gLoop f z (vA e0) op7 cd7 one n r).2) → Qf x M') → V p l e (Rm d) s m args below meth c 3 D cy ad G (wA ad G) 0 0 (MQ below (wQ D cy ad G (rI Qf)) args s 0 0 (wA ad G)) 5 [(0, .ref (ad 30 0)), (1, .int v)] [] M := by
  intro n
  induction n with
  | zero =>
    intro M r v hF ho hR hp hv hz hQ
    have a2 := hp.2.1
    refine V_aload_n (pc := 5) C 0 dX10_both_5 rfl rfl ?_
    refine V_bipush (v := 97) (pc := 6) C dX10_both_6 (by decide) ?_
    refine V_bipush (v := 110) (pc := 8) C dX10_both_8 (by decide) ?_
    refine V_bipush (v := 100) (pc := 10) C dX10_both_10 (by decide) ?_
    refine V_iconst (v := 0) (pc := 12) C dX10_both_12 (by decide) ?_
    refine V_iconst (v := 0) (pc := 13) C dX10_both_13 (by decide) ?_
    refine V_iconst (v := 0) (pc := 14) C dX10_both_14 (by decide) ?_
    refine V_iconst (v := 0) (pc := 15) C dX10_both_15 (by decide) ?_
    refine V_iconst (v := 0) (pc := 16) C dX10_both_16 (by decide) ?_
    refine call_X10_207 (pc := 17) C (r_word (d := d - 1) hG (by omega) (hB.rr hF).1 hR 11 (by decide) (by decide)) (by omega) (wg hG (by decide) (by decide)) (Nat.le_of_ble_eq_true rfl) dX10_both_17 (fun x_17 M_17 h_17 => ?_)
    obtain ⟨e_17, rfl⟩ := h_17
    have e_17 := e_17.symm
    subst e_17
    refine V_if_eq (tgt := 49) (pc := 20) C dX10_both_20 (by decide) (fun h_20 => ?_) (fun h_20 => ?_)
    · have h_20 := bJ_0.mp h_20
      refine V_iload_n (pc := 49) C 1 dX10_both_49 rfl rfl ?_
      refine V_iret (pc := 50) C hr hlk dX10_both_50 ⟨_, rfl, ?_⟩
      exact hQ _ _ hF ho hR hv
    · have h_20 := bJ_1.mp h_20
      rw [wq_hi (by decide)] at h_20
      have a1 := hp.2.2.1 (by rw [h_20]; decide)
      exact absurd a1 (by omega)
  | succ n ih =>
    intro M r v hF ho hR hp hv hz hQ
    refine V_aload_n (pc := 5) C 0 dX10_both_5 rfl rfl ?_
    refine V_bipush (v := 97) (pc := 6) C dX10_both_6 (by decide) ?_
    refine V_bipush (v := 110) (pc := 8) C dX10_both_8 (by decide) ?_
    refine V_bipush (v := 100) (pc := 10) C dX10_both_10 (by decide) ?_
    refine V_iconst (v := 0) (pc := 12) C dX10_both_12 (by decide) ?_
    refine V_iconst (v := 0) (pc := 13) C dX10_both_13 (by decide) ?_
    refine V_iconst (v := 0) (pc := 14) C dX10_both_14 (by decide) ?_
    refine V_iconst (v := 0) (pc := 15) C dX10_both_15 (by decide) ?_
    refine V_iconst (v := 0) (pc := 16) C dX10_both_16 (by decide) ?_
    refine call_X10_207 (pc := 17) C (r_word (d := d - 1) hG (by omega) (hB.rr hF).1 hR 11 (by decide) (by decide)) (by omega) (wg hG (by decide) (by decide)) (Nat.le_of_ble_eq_true rfl) dX10_both_17 (fun x_17 M_17 h_17 => ?_)
    obtain ⟨e_17, rfl⟩ := h_17
    have e_17 := e_17.symm
    subst e_17
    refine V_if_eq (tgt := 49) (pc := 20) C dX10_both_20 (by decide) (fun h_20 => ?_) (fun h_20 => ?_)
    · have h_20 := bJ_0.mp h_20
      rw [wq_hi (by decide)] at h_20
      have h_20 : ¬ r.1.2.2.1 = 7 := h_20
      have hop : ¬ op7 r.1.2.2.1 = true := fun e => h_20 (by simpa [op7] using e)
      refine V_iload_n (pc := 49) C 1 dX10_both_49 rfl rfl ?_
      refine V_iret (pc := 50) C hr hlk dX10_both_50 ⟨_, rfl, ?_⟩
      exact hQ _ _ hF ho (by rw [gLoop_n hop]; exact hR) (by rw [gLoop_n hop]; exact hv)
    · have h_20 := bJ_1.mp h_20
      rw [wq_hi (by decide)] at h_20
      have h_20 : r.1.2.2.1 = 7 := h_20
      have hop : op7 r.1.2.2.1 = true := by simp [op7, h_20]
      have hm1 : ¬ r.1.2.2.1 = -1 := fun e => absurd (h_20.symm.trans e) (by decide)
      have hnb := hR.nb hm1
      have a1 := hp.2.2.1 (by rw [h_20]; decide)
      have hn := nx_ok f hp
      have hs := hm _ hn.1
      refine V_aload_n (pc := 23) C 0 dX10_both_23 rfl rfl ?_
      refine call_X10_204 (pc := 24) C (r_next (d := d - 1) hG (by omega) (hB.rr hF).1 hR hnb hm1) (by omega) (wg hG (by decide) (by decide)) (Nat.le_of_ble_eq_true rfl) dX10_both_24 (fun M_24 h_24 => ?_)
      obtain ⟨f1, f2, f3⟩ := h_24
      refine V_aload_n (pc := 27) C 0 dX10_both_27 rfl rfl ?_
      refine call_X10_251 (pc := 28) C (h1 _ _ ((hB.rr hF).rr f1) f3 hnb hn.1 (f2.trans ho)) (by omega) (wg hG (by decide) (by decide)) (Nat.le_of_ble_eq_true rfl) dX10_both_28 (fun x_28 M_28 h_28 => ?_)
      obtain ⟨f4, f5, f6, f7⟩ := h_28
      refine Vs_istore_n (lv' := [(0, _), (1, _), (2, _)]) (pc := 31) C dX10_both_31 rfl (by decide) rfl rfl ?_
      refine V_iload_n (pc := 32) C 1 dX10_both_32 rfl rfl ?_
      refine V_if_eq (tgt := 44) (pc := 33) C dX10_both_33 (by decide) (fun h_33 => ?_) (fun h_33 => ?_)
      · refine V_iconst (v := 0) (pc := 44) C dX10_both_44 (by decide) ?_
        refine Vs_istore_n (lv' := [(0, _), (1, _), (2, _)]) (pc := 45) C dX10_both_45 rfl (by decide) rfl rfl ?_
        refine V_goto (tgt := 5) (pc := 46) C dX10_both_46 (by decide) ?_
        refine V_loc (lv' := [(0, _), (1, _)]) [0, 1] rfl ?_
        refine ih _ ((one (nxQ f z r.1)).1, (vA e0).2.2.2 (cd7 r.1.2.2.1) r.2 (one (nxQ f z r.1)).2) _ ((hF.tr f1).tr f4) f5 f6 hs.1 ?_ ?_ ?_
        · intro e
          rw [← hv hnb, ← f7 e]
          show _ = bI (¬ v = 0 ∧ ¬ x_28 = 0)
          first | exact bI_t ⟨h_33, h_37⟩ | exact bI_f (fun z => z.2 h_37) | exact bI_f (fun z => z.1 h_33)
        · have := hn.2
          have := hs.2
          show z ≤ (one (nxQ f z r.1)).1.2.1 + n
          omega
        · intro M' x q1 q2 q3 q4
          exact hQ M' x q1 q2 (by rw [gLoop_y hop]; exact q3) (by rw [gLoop_y hop]; exact q4)
      · refine V_iload_n (pc := 36) C 2 dX10_both_36 rfl rfl ?_
        refine V_if_eq (tgt := 44) (pc := 37) C dX10_both_37 (by decide) (fun h_37 => ?_) (fun h_37 => ?_)
        · refine V_iconst (v := 0) (pc := 44) C dX10_both_44 (by decide) ?_
          refine Vs_istore_n (lv' := [(0, _), (1, _), (2, _)]) (pc := 45) C dX10_both_45 rfl (by decide) rfl rfl ?_
          refine V_goto (tgt := 5) (pc := 46) C dX10_both_46 (by decide) ?_
          refine V_loc (lv' := [(0, _), (1, _)]) [0, 1] rfl ?_
          refine ih _ ((one (nxQ f z r.1)).1, (vA e0).2.2.2 (cd7 r.1.2.2.1) r.2 (one (nxQ f z r.1)).2) _ ((hF.tr f1).tr f4) f5 f6 hs.1 ?_ ?_ ?_
          · intro e
            rw [← hv hnb, ← f7 e]
            show _ = bI (¬ v = 0 ∧ ¬ x_28 = 0)
            first | exact bI_t ⟨h_33, h_37⟩ | exact bI_f (fun z => z.2 h_37) | exact bI_f (fun z => z.1 h_33)
          · have := hn.2
            have := hs.2
            show z ≤ (one (nxQ f z r.1)).1.2.1 + n
            omega
          · intro M' x q1 q2 q3 q4
            exact hQ M' x q1 q2 (by rw [gLoop_y hop]; exact q3) (by rw [gLoop_y hop]; exact q4)
        · refine V_iconst (v := 1) (pc := 40) C dX10_both_40 (by decide) ?_
          refine V_goto (tgt := 45) (pc := 41) C dX10_both_41 (by decide) ?_
          refine Vs_istore_n (lv' := [(0, _), (1, _), (2, _)]) (pc := 45) C dX10_both_45 rfl (by decide) rfl rfl ?_
          refine V_goto (tgt := 5) (pc := 46) C dX10_both_46 (by decide) ?_
          refine V_loc (lv' := [(0, _), (1, _)]) [0, 1] rfl ?_
          refine ih _ ((one (nxQ f z r.1)).1, (vA e0).2.2.2 (cd7 r.1.2.2.1) r.2 (one (nxQ f z r.1)).2) _ ((hF.tr f1).tr f4) f5 f6 hs.1 ?_ ?_ ?_
          · intro e
            rw [← hv hnb, ← f7 e]
            show _ = bI (¬ v = 0 ∧ ¬ x_28 = 0)
            first | exact bI_t ⟨h_33, h_37⟩ | exact bI_f (fun z => z.2 h_37) | exact bI_f (fun z => z.1 h_33)
          · have := hn.2
            have := hs.2
            show z ≤ (one (nxQ f z r.1)).1.2.1 + n
            omega
          · intro M' x q1 q2 q3 q4
            exact hQ M' x q1 q2 (by rw [gLoop_y hop]; exact q3) (by rw [gLoop_y hop]; exact q4)
theorem rv_both (hG : 56 ≤ G) (hd : 8 ≤ d) {F z o : Nat} {f e0 : Nat → Int32} {one : rS → rS × Int32} (h1 : RV l D cy ad G (d - 1) yX10_not cX10_not 4 F z f e0 o one) (hm : mono z one) : RV l D cy ad G d yX10_both cX10_both 3 F z f e0 o (gAnd f z (vA e0) one) := by
  intro M q hB hR hnb hp ho
  have hz := hB.1.2.2.1
  have hs := hm q hp
  refine Ctr.of (lv0 := [(0, _)]) (by decide) (Nat.le_of_ble_eq_true rfl) rfl ?_
  intro p e s m args below meth c C hr hlk _
  have C : CX p s m args c cX10_both 3 "CostsAgeModel" D cy ad G (wA ad G) (Rm d) d 0 0 := C
  refine V_aload_n (pc := 0) C 0 dX10_both_0 rfl rfl ?_
  refine call_X10_251 (pc := 1) C (h1 _ _ hB hR hnb hp ho) (by omega) (wg hG (by decide) (by decide)) (Nat.le_of_ble_eq_true rfl) dX10_both_1 (fun x_1 M_1 h_1 => ?_)
  obtain ⟨f4, f5, f6, f7⟩ := h_1
  refine Vs_istore_n (lv' := [(0, _), (1, _)]) (pc := 4) C dX10_both_4 rfl (by decide) rfl rfl ?_
  exact lp_X10_both C hr hlk hG hd h1 hm M hB _ 160 _ (one q) _ f4 f5 f6 hs.1 f7 (by omega) (fun M' x q1 q2 q3 q4 => ⟨q1, q2, q3, q4⟩)
theorem lp_X10_either {p : Program} {e : Env} {s : State} {m : MethodId} {args : Array Value} {below : List Frame} {meth : Method} {c : Code} (C : CX p s m args c cX10_either 3 "CostsAgeModel" D cy ad G (wA ad G) (Rm d) d 0 0) (hr : meth.sig.returnType = (some .int)) (hlk : meth.locks = false) (hG : 56 ≤ G) (hd : 9 ≤ d) {F z o : Nat} {f e0 : Nat → Int32} {one : rS → rS × Int32} (h1 : RV l D cy ad G (d - 1) yX10_both cX10_both 3 F z f e0 o one) (hm : mono z one) (M0 : wS) (hB : rB M0 F z f e0) (Qf : Int32 → wS → Prop) : ∀ (n : Nat) (M : wS) (r : rS × Int32) (v : Int32), frR M0 M → M.1 30 0 34 = nI o → rfS M f z r.1 → pok z r.1 → (r.1.2.2.2.2 = -1 → v = r.2) → z ≤ r.1.2.1 + n → (∀ M' x, frR M0 M' → M'.1 30 0 34 = nI o → rfS M' f z (gLoop f z (vA e0) op6 cd6 one n r).1 → ((gLoop f z (vA e0) op6 cd6 one n r).1.2.2.2.2 = -1 → x = (gLoop f z (vA e0) op6 cd6 one n r).2) → Qf x M') → V p l e (Rm d) s m args below meth c 3 D cy ad G (wA ad G) 0 0 (MQ below (wQ D cy ad G (rI Qf)) args s 0 0 (wA ad G)) 5 [(0, .ref (ad 30 0)), (1, .int v)] [] M := by
  intro n
  induction n with
  | zero =>
    intro M r v hF ho hR hp hv hz hQ
    have a2 := hp.2.1
    refine V_aload_n (pc := 5) C 0 dX10_either_5 rfl rfl ?_
    refine V_bipush (v := 111) (pc := 6) C dX10_either_6 (by decide) ?_
    refine V_bipush (v := 114) (pc := 8) C dX10_either_8 (by decide) ?_
    refine V_iconst (v := 0) (pc := 10) C dX10_either_10 (by decide) ?_
    refine V_iconst (v := 0) (pc := 11) C dX10_either_11 (by decide) ?_
    refine V_iconst (v := 0) (pc := 12) C dX10_either_12 (by decide) ?_
    refine V_iconst (v := 0) (pc := 13) C dX10_either_13 (by decide) ?_
    refine V_iconst (v := 0) (pc := 14) C dX10_either_14 (by decide) ?_
    refine V_iconst (v := 0) (pc := 15) C dX10_either_15 (by decide) ?_
    refine call_X10_207 (pc := 16) C (r_word (d := d - 1) hG (by omega) (hB.rr hF).1 hR 10 (by decide) (by decide)) (by omega) (wg hG (by decide) (by decide)) (Nat.le_of_ble_eq_true rfl) dX10_either_16 (fun x_16 M_16 h_16 => ?_)
    obtain ⟨e_16, rfl⟩ := h_16
    have e_16 := e_16.symm
    subst e_16
    refine V_if_eq (tgt := 48) (pc := 19) C dX10_either_19 (by decide) (fun h_19 => ?_) (fun h_19 => ?_)
    · have h_19 := bJ_0.mp h_19
      refine V_iload_n (pc := 48) C 1 dX10_either_48 rfl rfl ?_
      refine V_iret (pc := 49) C hr hlk dX10_either_49 ⟨_, rfl, ?_⟩
      exact hQ _ _ hF ho hR hv
    · have h_19 := bJ_1.mp h_19
      rw [wq_hi (by decide)] at h_19
      have a1 := hp.2.2.1 (by rw [h_19]; decide)
      exact absurd a1 (by omega)
  | succ n ih =>
    intro M r v hF ho hR hp hv hz hQ
    refine V_aload_n (pc := 5) C 0 dX10_either_5 rfl rfl ?_
    refine V_bipush (v := 111) (pc := 6) C dX10_either_6 (by decide) ?_
    refine V_bipush (v := 114) (pc := 8) C dX10_either_8 (by decide) ?_
    refine V_iconst (v := 0) (pc := 10) C dX10_either_10 (by decide) ?_
    refine V_iconst (v := 0) (pc := 11) C dX10_either_11 (by decide) ?_
    refine V_iconst (v := 0) (pc := 12) C dX10_either_12 (by decide) ?_
    refine V_iconst (v := 0) (pc := 13) C dX10_either_13 (by decide) ?_
    refine V_iconst (v := 0) (pc := 14) C dX10_either_14 (by decide) ?_
    refine V_iconst (v := 0) (pc := 15) C dX10_either_15 (by decide) ?_
    refine call_X10_207 (pc := 16) C (r_word (d := d - 1) hG (by omega) (hB.rr hF).1 hR 10 (by decide) (by decide)) (by omega) (wg hG (by decide) (by decide)) (Nat.le_of_ble_eq_true rfl) dX10_either_16 (fun x_16 M_16 h_16 => ?_)
    obtain ⟨e_16, rfl⟩ := h_16
    have e_16 := e_16.symm
    subst e_16
    refine V_if_eq (tgt := 48) (pc := 19) C dX10_either_19 (by decide) (fun h_19 => ?_) (fun h_19 => ?_)
    · have h_19 := bJ_0.mp h_19
      rw [wq_hi (by decide)] at h_19
      have h_19 : ¬ r.1.2.2.1 = 6 := h_19
      have hop : ¬ op6 r.1.2.2.1 = true := fun e => h_19 (by simpa [op6] using e)
      refine V_iload_n (pc := 48) C 1 dX10_either_48 rfl rfl ?_
      refine V_iret (pc := 49) C hr hlk dX10_either_49 ⟨_, rfl, ?_⟩
      exact hQ _ _ hF ho (by rw [gLoop_n hop]; exact hR) (by rw [gLoop_n hop]; exact hv)
    · have h_19 := bJ_1.mp h_19
      rw [wq_hi (by decide)] at h_19
      have h_19 : r.1.2.2.1 = 6 := h_19
      have hop : op6 r.1.2.2.1 = true := by simp [op6, h_19]
      have hm1 : ¬ r.1.2.2.1 = -1 := fun e => absurd (h_19.symm.trans e) (by decide)
      have hnb := hR.nb hm1
      have a1 := hp.2.2.1 (by rw [h_19]; decide)
      have hn := nx_ok f hp
      have hs := hm _ hn.1
      refine V_aload_n (pc := 22) C 0 dX10_either_22 rfl rfl ?_
      refine call_X10_204 (pc := 23) C (r_next (d := d - 1) hG (by omega) (hB.rr hF).1 hR hnb hm1) (by omega) (wg hG (by decide) (by decide)) (Nat.le_of_ble_eq_true rfl) dX10_either_23 (fun M_23 h_23 => ?_)
      obtain ⟨f1, f2, f3⟩ := h_23
      refine V_aload_n (pc := 26) C 0 dX10_either_26 rfl rfl ?_
      refine call_X10_259 (pc := 27) C (h1 _ _ ((hB.rr hF).rr f1) f3 hnb hn.1 (f2.trans ho)) (by omega) (wg hG (by decide) (by decide)) (Nat.le_of_ble_eq_true rfl) dX10_either_27 (fun x_27 M_27 h_27 => ?_)
      obtain ⟨f4, f5, f6, f7⟩ := h_27
      refine Vs_istore_n (lv' := [(0, _), (1, _), (2, _)]) (pc := 30) C dX10_either_30 rfl (by decide) rfl rfl ?_
      refine V_iload_n (pc := 31) C 1 dX10_either_31 rfl rfl ?_
      refine V_if_ne (tgt := 39) (pc := 32) C dX10_either_32 (by decide) (fun h_32 => ?_) (fun h_32 => ?_)
      · refine V_iconst (v := 1) (pc := 39) C dX10_either_39 (by decide) ?_
        refine V_goto (tgt := 44) (pc := 40) C dX10_either_40 (by decide) ?_
        refine Vs_istore_n (lv' := [(0, _), (1, _), (2, _)]) (pc := 44) C dX10_either_44 rfl (by decide) rfl rfl ?_
        refine V_goto (tgt := 5) (pc := 45) C dX10_either_45 (by decide) ?_
        refine V_loc (lv' := [(0, _), (1, _)]) [0, 1] rfl ?_
        refine ih _ ((one (nxQ f z r.1)).1, (vA e0).2.2.2 (cd6 r.1.2.2.1) r.2 (one (nxQ f z r.1)).2) _ ((hF.tr f1).tr f4) f5 f6 hs.1 ?_ ?_ ?_
        · intro e
          rw [← hv hnb, ← f7 e]
          show _ = bI (¬ v = 0 ∨ ¬ x_27 = 0)
          first | exact bI_t (Or.inl h_32) | exact bI_t (Or.inr h_36) | exact bI_f (fun z => z.elim (fun y => y h_32) (fun y => y h_36))
        · have := hn.2
          have := hs.2
          show z ≤ (one (nxQ f z r.1)).1.2.1 + n
          omega
        · intro M' x q1 q2 q3 q4
          exact hQ M' x q1 q2 (by rw [gLoop_y hop]; exact q3) (by rw [gLoop_y hop]; exact q4)
      · refine V_iload_n (pc := 35) C 2 dX10_either_35 rfl rfl ?_
        refine V_if_eq (tgt := 43) (pc := 36) C dX10_either_36 (by decide) (fun h_36 => ?_) (fun h_36 => ?_)
        · refine V_iconst (v := 0) (pc := 43) C dX10_either_43 (by decide) ?_
          refine Vs_istore_n (lv' := [(0, _), (1, _), (2, _)]) (pc := 44) C dX10_either_44 rfl (by decide) rfl rfl ?_
          refine V_goto (tgt := 5) (pc := 45) C dX10_either_45 (by decide) ?_
          refine V_loc (lv' := [(0, _), (1, _)]) [0, 1] rfl ?_
          refine ih _ ((one (nxQ f z r.1)).1, (vA e0).2.2.2 (cd6 r.1.2.2.1) r.2 (one (nxQ f z r.1)).2) _ ((hF.tr f1).tr f4) f5 f6 hs.1 ?_ ?_ ?_
          · intro e
            rw [← hv hnb, ← f7 e]
            show _ = bI (¬ v = 0 ∨ ¬ x_27 = 0)
            first | exact bI_t (Or.inl h_32) | exact bI_t (Or.inr h_36) | exact bI_f (fun z => z.elim (fun y => y h_32) (fun y => y h_36))
          · have := hn.2
            have := hs.2
            show z ≤ (one (nxQ f z r.1)).1.2.1 + n
            omega
          · intro M' x q1 q2 q3 q4
            exact hQ M' x q1 q2 (by rw [gLoop_y hop]; exact q3) (by rw [gLoop_y hop]; exact q4)
        · refine V_iconst (v := 1) (pc := 39) C dX10_either_39 (by decide) ?_
          refine V_goto (tgt := 44) (pc := 40) C dX10_either_40 (by decide) ?_
          refine Vs_istore_n (lv' := [(0, _), (1, _), (2, _)]) (pc := 44) C dX10_either_44 rfl (by decide) rfl rfl ?_
          refine V_goto (tgt := 5) (pc := 45) C dX10_either_45 (by decide) ?_
          refine V_loc (lv' := [(0, _), (1, _)]) [0, 1] rfl ?_
          refine ih _ ((one (nxQ f z r.1)).1, (vA e0).2.2.2 (cd6 r.1.2.2.1) r.2 (one (nxQ f z r.1)).2) _ ((hF.tr f1).tr f4) f5 f6 hs.1 ?_ ?_ ?_
          · intro e
            rw [← hv hnb, ← f7 e]
            show _ = bI (¬ v = 0 ∨ ¬ x_27 = 0)
            first | exact bI_t (Or.inl h_32) | exact bI_t (Or.inr h_36) | exact bI_f (fun z => z.elim (fun y => y h_32) (fun y => y h_36))
          · have := hn.2
            have := hs.2
            show z ≤ (one (nxQ f z r.1)).1.2.1 + n
            omega
          · intro M' x q1 q2 q3 q4
            exact hQ M' x q1 q2 (by rw [gLoop_y hop]; exact q3) (by rw [gLoop_y hop]; exact q4)
theorem rv_either (hG : 56 ≤ G) (hd : 9 ≤ d) {F z o : Nat} {f e0 : Nat → Int32} {nt : rS → rS × Int32} (h1 : RV l D cy ad G (d - 1) yX10_both cX10_both 3 F z f e0 o (gAnd f z (vA e0) nt)) (hm : mono z (gAnd f z (vA e0) nt)) : RV l D cy ad G d yX10_either cX10_either 3 F z f e0 o (gE f z (vA e0) nt) := by
  intro M q hB hR hnb hp ho
  have hz := hB.1.2.2.1
  have hs := hm q hp
  refine Ctr.of (lv0 := [(0, _)]) (by decide) (Nat.le_of_ble_eq_true rfl) rfl ?_
  intro p e s m args below meth c C hr hlk _
  have C : CX p s m args c cX10_either 3 "CostsAgeModel" D cy ad G (wA ad G) (Rm d) d 0 0 := C
  refine V_aload_n (pc := 0) C 0 dX10_either_0 rfl rfl ?_
  refine call_X10_259 (pc := 1) C (h1 _ _ hB hR hnb hp ho) (by omega) (wg hG (by decide) (by decide)) (Nat.le_of_ble_eq_true rfl) dX10_either_1 (fun x_1 M_1 h_1 => ?_)
  obtain ⟨f4, f5, f6, f7⟩ := h_1
  refine Vs_istore_n (lv' := [(0, _), (1, _)]) (pc := 4) C dX10_either_4 rfl (by decide) rfl rfl ?_
  exact lp_X10_either C hr hlk hG hd h1 hm M hB _ 160 _ (gAnd f z (vA e0) nt q) _ f4 f5 f6 hs.1 f7 (by omega) (fun M' x q1 q2 q3 q4 => ⟨q1, q2, q3, q4⟩)
end S53
