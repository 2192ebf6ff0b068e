section S50
variable {l : Launch} {D : va_G} {cy : Nat → ClassId} {ad : Nat → Nat → Nat} {G d : Nat}
/-- the reference's TOKEN at place q -/
def kdF (f : Nat → Int32) (z q : Nat) : Int32 := if z ≤ q then 0 else if 97 ≤ f q ∧ f q ≤ 122 then 1 else if 48 ≤ f q ∧ f q ≤ 57 then (if lxDg f (z - q) q - q ≤ 4 then 2 else 4) else if pSign (f q) = true then 3 else 4
def hrF (f : Nat → Int32) (z q : Nat) : Nat := if z ≤ q then q else if 97 ≤ f q ∧ f q ≤ 122 then lxWd f (z - q) q else if 48 ≤ f q ∧ f q ≤ 57 then lxDg f (z - q) q else if pSign (f q) = true then q + 1 else q
def rTk (M : wS) (f : Nat → Int32) (z q : Nat) : Prop := M.1 30 0 32 = nI q ∧ M.1 30 0 31 = kdF f z q ∧ M.1 30 0 30 = nI (hrF f z q) ∧ (kdF f z q = 2 → M.2 = (lxNv f (z - q) q 0).toInt64) ∧ (kdF f z q = 3 → M.2 = (f q).toInt64) ∧ q ≤ z
theorem rE.g {M : wS} {F z : Nat} {f : Nat → Int32} (hE : rE M F z f) (x : Int32) : rE (mset M 30 0 30 x) F z f := hE.fr (frN.set x (by omega))
theorem lp_X10_next {p : Program} {e : Env} {s : State} {m : MethodId} {args : Array Value} {below : List Frame} {meth : Method} {c : Code} (C : CX p s m args c cX10_next 3 "CostsAgeModel" D cy ad G (wA ad G) (Rm d) d 0 0) (hr : meth.sig.returnType = none) (hlk : meth.locks = false) (hG : 56 ≤ G) (hd : 1 ≤ d) (M0 : wS) {F z : Nat} {f : Nat → Int32} (hE : rE M0 F z f) (Qf : wS → Prop) : ∀ (n a : Nat), a + n = z → V p l e (Rm d) s m args below meth c 3 D cy ad G (wA ad G) 0 0 (MQ below (wQ D cy ad G (rV Qf)) args s 0 0 (wA ad G)) 39 [(0, .ref (ad 30 0))] [] (mset M0 30 0 30 (nI (lxSk f n a))) → V p l e (Rm d) s m args below meth c 3 D cy ad G (wA ad G) 0 0 (MQ below (wQ D cy ad G (rV Qf)) args s 0 0 (wA ad G)) 0 [(0, .ref (ad 30 0))] [] (mset M0 30 0 30 (nI a)) := by
  intro n
  induction n with
  | zero =>
    intro a ha hQ
    have g2 : (mset M0 30 0 30 (nI a)).1 30 0 30 = nI a := by rw [mset_at, if_pos ⟨rfl, rfl, rfl⟩]
    have g3 : bA f z a = -1 := by rw [bA, if_neg (by omega)]
    refine V_aload_n (pc := 0) C 0 dX10_next_0 rfl rfl ?_
    refine V_aload_n (pc := 1) C 0 dX10_next_1 rfl rfl ?_
    refine get_X10_163 (pc := 2) C (wg hG (by decide) (by decide)) dX10_next_2 ?_
    rw [g2]
    refine call_X10_166 (pc := 5) C (c_X10_byteAt (d := d - 1) hG _ (hE.g (nI a)) (k := a) (by omega)) (by omega) (wg hG (by decide) (by decide)) (Nat.le_of_ble_eq_true rfl) dX10_next_5 (fun x_5 M_5 h_5 => ?_)
    obtain ⟨e_5, rfl⟩ := h_5
    have e_5 := e_5.symm
    subst e_5
    refine V_bipush (v := 32) (pc := 8) C dX10_next_8 (by decide) ?_
    refine V_icmp_eq (tgt := 26) (pc := 10) C dX10_next_10 (by decide) (fun h_10 => ?_) (fun h_10 => ?_)
    · rw [g3] at h_10
      exact absurd h_10 (by decide)
    · refine V_aload_n (pc := 13) C 0 dX10_next_13 rfl rfl ?_
      refine V_aload_n (pc := 14) C 0 dX10_next_14 rfl rfl ?_
      refine get_X10_163 (pc := 15) C (wg hG (by decide) (by decide)) dX10_next_15 ?_
      rw [g2]
      refine call_X10_166 (pc := 18) C (c_X10_byteAt (d := d - 1) hG _ (hE.g (nI a)) (k := a) (by omega)) (by omega) (wg hG (by decide) (by decide)) (Nat.le_of_ble_eq_true rfl) dX10_next_18 (fun x_18 M_18 h_18 => ?_)
      obtain ⟨e_18, rfl⟩ := h_18
      have e_18 := e_18.symm
      subst e_18
      refine V_bipush (v := 10) (pc := 21) C dX10_next_21 (by decide) ?_
      refine V_icmp_ne (tgt := 39) (pc := 23) C dX10_next_23 (by decide) (fun h_23 => ?_) (fun h_23 => ?_)
      · exact hQ
      · rw [g3] at h_23
        exact absurd h_23 (by decide)
  | succ n ih =>
    intro a ha hQ
    have g2 : (mset M0 30 0 30 (nI a)).1 30 0 30 = nI a := by rw [mset_at, if_pos ⟨rfl, rfl, rfl⟩]
    have g3 : bA f z a = f a := by rw [bA, if_pos (by omega)]
    unfold lxSk at hQ
    refine V_aload_n (pc := 0) C 0 dX10_next_0 rfl rfl ?_
    refine V_aload_n (pc := 1) C 0 dX10_next_1 rfl rfl ?_
    refine get_X10_163 (pc := 2) C (wg hG (by decide) (by decide)) dX10_next_2 ?_
    rw [g2]
    refine call_X10_166 (pc := 5) C (c_X10_byteAt (d := d - 1) hG _ (hE.g (nI a)) (k := a) (by omega)) (by omega) (wg hG (by decide) (by decide)) (Nat.le_of_ble_eq_true rfl) dX10_next_5 (fun x_5 M_5 h_5 => ?_)
    obtain ⟨e_5, rfl⟩ := h_5
    have e_5 := e_5.symm
    subst e_5
    refine V_bipush (v := 32) (pc := 8) C dX10_next_8 (by decide) ?_
    refine V_icmp_eq (tgt := 26) (pc := 10) C dX10_next_10 (by decide) (fun h_10 => ?_) (fun h_10 => ?_)
    · rw [g3] at h_10
      rw [if_pos (Or.inl h_10)] at hQ
      refine V_aload_n (pc := 26) C 0 dX10_next_26 rfl rfl ?_
      refine V_dup (pc := 27) C dX10_next_27 rfl ?_
      refine get_X10_163 (pc := 28) C (wg hG (by decide) (by decide)) dX10_next_28 ?_
      refine V_iconst (v := 1) (pc := 31) C dX10_next_31 (by decide) ?_
      refine V_iadd (pc := 32) C dX10_next_32 ?_
      refine put_X10_163 (pc := 33) C (wg hG (by decide) (by decide)) dX10_next_33 ?_
      rw [g2, mset_mset, nI_1]
      refine V_goto (tgt := 0) (pc := 36) C dX10_next_36 (by decide) ?_
      exact ih (a + 1) (by omega) hQ
    · rw [g3] at h_10
      refine V_aload_n (pc := 13) C 0 dX10_next_13 rfl rfl ?_
      refine V_aload_n (pc := 14) C 0 dX10_next_14 rfl rfl ?_
      refine get_X10_163 (pc := 15) C (wg hG (by decide) (by decide)) dX10_next_15 ?_
      rw [g2]
      refine call_X10_166 (pc := 18) C (c_X10_byteAt (d := d - 1) hG _ (hE.g (nI a)) (k := a) (by omega)) (by omega) (wg hG (by decide) (by decide)) (Nat.le_of_ble_eq_true rfl) dX10_next_18 (fun x_18 M_18 h_18 => ?_)
      obtain ⟨e_18, rfl⟩ := h_18
      have e_18 := e_18.symm
      subst e_18
      refine V_bipush (v := 10) (pc := 21) C dX10_next_21 (by decide) ?_
      refine V_icmp_ne (tgt := 39) (pc := 23) C dX10_next_23 (by decide) (fun h_23 => ?_) (fun h_23 => ?_)
      · rw [g3] at h_23
        rw [if_neg (fun e => e.elim h_10 h_23)] at hQ
        exact hQ
      · rw [g3] at h_23
        rw [if_pos (Or.inr h_23)] at hQ
        refine V_aload_n (pc := 26) C 0 dX10_next_26 rfl rfl ?_
        refine V_dup (pc := 27) C dX10_next_27 rfl ?_
        refine get_X10_163 (pc := 28) C (wg hG (by decide) (by decide)) dX10_next_28 ?_
        refine V_iconst (v := 1) (pc := 31) C dX10_next_31 (by decide) ?_
        refine V_iadd (pc := 32) C dX10_next_32 ?_
        refine put_X10_163 (pc := 33) C (wg hG (by decide) (by decide)) dX10_next_33 ?_
        rw [g2, mset_mset, nI_1]
        refine V_goto (tgt := 0) (pc := 36) C dX10_next_36 (by decide) ?_
        exact ih (a + 1) (by omega) hQ
theorem lq_X10_next {p : Program} {e : Env} {s : State} {m : MethodId} {args : Array Value} {below : List Frame} {meth : Method} {c : Code} (C : CX p s m args c cX10_next 3 "CostsAgeModel" D cy ad G (wA ad G) (Rm d) d 0 0) (hr : meth.sig.returnType = none) (hlk : meth.locks = false) (hG : 56 ≤ G) (hd : 2 ≤ d) (M0 : wS) {F z : Nat} {f : Nat → Int32} (hE : rE M0 F z f) (b : Int32) (Qf : wS → Prop) : ∀ (n a : Nat), a + n = z → V p l e (Rm d) s m args below meth c 3 D cy ad G (wA ad G) 0 0 (MQ below (wQ D cy ad G (rV Qf)) args s 0 0 (wA ad G)) 321 [(0, .ref (ad 30 0)), (1, .int b)] [] (mset M0 30 0 30 (nI (lxWd f n a))) → V p l e (Rm d) s m args below meth c 3 D cy ad G (wA ad G) 0 0 (MQ below (wQ D cy ad G (rV Qf)) args s 0 0 (wA ad G)) 100 [(0, .ref (ad 30 0)), (1, .int b)] [] (mset M0 30 0 30 (nI a)) := by
  intro n
  induction n with
  | zero =>
    intro a ha hQ
    have g2 : (mset M0 30 0 30 (nI a)).1 30 0 30 = nI a := by rw [mset_at, if_pos ⟨rfl, rfl, rfl⟩]
    refine V_aload_n (pc := 100) C 0 dX10_next_100 rfl rfl ?_
    refine V_aload_n (pc := 101) C 0 dX10_next_101 rfl rfl ?_
    refine get_X10_163 (pc := 102) C (wg hG (by decide) (by decide)) dX10_next_102 ?_
    rw [g2]
    refine call_X10_166 (pc := 105) C (c_X10_byteAt (d := d - 1) hG _ (hE.g (nI a)) (k := a) (by omega)) (by omega) (wg hG (by decide) (by decide)) (Nat.le_of_ble_eq_true rfl) dX10_next_105 (fun x_105 M_105 h_105 => ?_)
    obtain ⟨e_105, rfl⟩ := h_105
    have e_105 := e_105.symm
    subst e_105
    refine V_i2l (pc := 108) C dX10_next_108 ?_
    refine V_ldc2 (pc := 109) C dX10_next_109 qk_X10_175 ?_
    refine V_ldc2 (pc := 112) C dX10_next_112 qk_X10_177 ?_
    refine call_X10_106 (pc := 115) C (c_in (d := d - 1) _ (bA f z a) 97 122 (by decide) (by decide)) (by omega) (Nat.le_of_ble_eq_true rfl) dX10_next_115 (fun x_115 M_115 h_115 => ?_)
    obtain ⟨e_115, rfl⟩ := h_115
    have e_115 := e_115.symm
    subst e_115
    refine V_if_eq (tgt := 321) (pc := 118) C dX10_next_118 (by decide) (fun h_118 => ?_) (fun h_118 => ?_)
    · have h_118 := bJ_0.mp h_118
      exact hQ
    · have h_118 := bJ_1.mp h_118
      rw [bA_in (by decide)] at h_118
      exact absurd h_118.1 (by omega)
  | succ n ih =>
    intro a ha hQ
    have g2 : (mset M0 30 0 30 (nI a)).1 30 0 30 = nI a := by rw [mset_at, if_pos ⟨rfl, rfl, rfl⟩]
    unfold lxWd at hQ
    refine V_aload_n (pc := 100) C 0 dX10_next_100 rfl rfl ?_
    refine V_aload_n (pc := 101) C 0 dX10_next_101 rfl rfl ?_
    refine get_X10_163 (pc := 102) C (wg hG (by decide) (by decide)) dX10_next_102 ?_
    rw [g2]
    refine call_X10_166 (pc := 105) C (c_X10_byteAt (d := d - 1) hG _ (hE.g (nI a)) (k := a) (by omega)) (by omega) (wg hG (by decide) (by decide)) (Nat.le_of_ble_eq_true rfl) dX10_next_105 (fun x_105 M_105 h_105 => ?_)
    obtain ⟨e_105, rfl⟩ := h_105
    have e_105 := e_105.symm
    subst e_105
    refine V_i2l (pc := 108) C dX10_next_108 ?_
    refine V_ldc2 (pc := 109) C dX10_next_109 qk_X10_175 ?_
    refine V_ldc2 (pc := 112) C dX10_next_112 qk_X10_177 ?_
    refine call_X10_106 (pc := 115) C (c_in (d := d - 1) _ (bA f z a) 97 122 (by decide) (by decide)) (by omega) (Nat.le_of_ble_eq_true rfl) dX10_next_115 (fun x_115 M_115 h_115 => ?_)
    obtain ⟨e_115, rfl⟩ := h_115
    have e_115 := e_115.symm
    subst e_115
    refine V_if_eq (tgt := 321) (pc := 118) C dX10_next_118 (by decide) (fun h_118 => ?_) (fun h_118 => ?_)
    · have h_118 := bJ_0.mp h_118
      rw [bA_in (by decide)] at h_118
      rw [if_neg (fun e => h_118 ⟨by omega, e⟩)] at hQ
      exact hQ
    · have h_118 := bJ_1.mp h_118
      rw [bA_in (by decide)] at h_118
      rw [if_pos h_118.2] at hQ
      refine V_aload_n (pc := 121) C 0 dX10_next_121 rfl rfl ?_
      refine V_dup (pc := 122) C dX10_next_122 rfl ?_
      refine get_X10_163 (pc := 123) C (wg hG (by decide) (by decide)) dX10_next_123 ?_
      refine V_iconst (v := 1) (pc := 126) C dX10_next_126 (by decide) ?_
      refine V_iadd (pc := 127) C dX10_next_127 ?_
      refine put_X10_163 (pc := 128) C (wg hG (by decide) (by decide)) dX10_next_128 ?_
      rw [g2, mset_mset, nI_1]
      refine V_goto (tgt := 100) (pc := 131) C dX10_next_131 (by decide) ?_
      exact ih (a + 1) (by omega) hQ
theorem l_dig {v w : Int32} {k : Nat} (hk : k ≤ 3) (hv : 0 ≤ v.toInt ∧ v.toInt < 10 ^ k) (hw : 48 ≤ w ∧ w ≤ 57) : (10 : Int64) * v.toInt64 + w.toInt64 - 48 = (10 * v + w - 48).toInt64 := by
  have h1 := dig_step hk hv hw
  have h0 : (10 : Int) ^ k ≤ 1000 := by
    match k, hk with
    | 0, _ => decide
    | 1, _ => decide
    | 2, _ => decide
    | 3, _ => decide
  have h2 : (48 : Int) ≤ w.toInt ∧ w.toInt ≤ 57 := ⟨Int32.le_iff_toInt_le.mp hw.1, Int32.le_iff_toInt_le.mp hw.2⟩
  apply Int64.toInt_inj.mp
  rw [Int32.toInt_toInt64, h1.2.2, Int64.toInt_sub, Int64.toInt_add, Int64.toInt_mul, Int32.toInt_toInt64, Int32.toInt_toInt64]
  simp only [Int.bmod, Int64.reduceToInt]
  omega
theorem lr_X10_next {p : Program} {e : Env} {s : State} {m : MethodId} {args : Array Value} {below : List Frame} {meth : Method} {c : Code} (C : CX p s m args c cX10_next 3 "CostsAgeModel" D cy ad G (wA ad G) (Rm d) d 0 0) (hr : meth.sig.returnType = none) (hlk : meth.locks = false) (hG : 56 ≤ G) (hd : 2 ≤ d) (M0 : wS) {F z : Nat} {f : Nat → Int32} (hE : rE M0 F z f) (b : Int32) (Qf : wS → Prop) : ∀ (n a k : Nat) (v : Int32) (M : wS), a + n = z → frH M0 M → M.1 30 0 30 = nI a → k ≤ a → (k ≤ 4 → M.2 = v.toInt64 ∧ 0 ≤ v.toInt ∧ v.toInt < 10 ^ k) → (∀ M', frH M0 M' → M'.1 30 0 30 = nI (lxDg f n a) → (k + (lxDg f n a - a) ≤ 4 → M'.2 = (lxNv f n a v).toInt64) → V p l e (Rm d) s m args below meth c 3 D cy ad G (wA ad G) 0 0 (MQ below (wQ D cy ad G (rV Qf)) args s 0 0 (wA ad G)) 235 [(0, .ref (ad 30 0)), (1, .int b), (2, .int (nI (k + (lxDg f n a - a))))] [] M') → V p l e (Rm d) s m args below meth c 3 D cy ad G (wA ad G) 0 0 (MQ below (wQ D cy ad G (rV Qf)) args s 0 0 (wA ad G)) 160 [(0, .ref (ad 30 0)), (1, .int b), (2, .int (nI k))] [] M := by
  intro n
  induction n with
  | zero =>
    intro a k v M ha hF g2 hka hw hQ
    have hE2 := hE.fr hF.n
    refine V_aload_n (pc := 160) C 0 dX10_next_160 rfl rfl ?_
    refine V_aload_n (pc := 161) C 0 dX10_next_161 rfl rfl ?_
    refine get_X10_163 (pc := 162) C (wg hG (by decide) (by decide)) dX10_next_162 ?_
    rw [g2]
    refine call_X10_166 (pc := 165) C (c_X10_byteAt (d := d - 1) hG _ hE2 (k := a) (by omega)) (by omega) (wg hG (by decide) (by decide)) (Nat.le_of_ble_eq_true rfl) dX10_next_165 (fun x_165 M_165 h_165 => ?_)
    obtain ⟨e_165, rfl⟩ := h_165
    have e_165 := e_165.symm
    subst e_165
    refine V_i2l (pc := 168) C dX10_next_168 ?_
    refine V_ldc2 (pc := 169) C dX10_next_169 qk_X10_179 ?_
    refine V_ldc2 (pc := 172) C dX10_next_172 qk_X10_181 ?_
    refine call_X10_106 (pc := 175) C (c_in (d := d - 1) _ (bA f z a) 48 57 (by decide) (by decide)) (by omega) (Nat.le_of_ble_eq_true rfl) dX10_next_175 (fun x_175 M_175 h_175 => ?_)
    obtain ⟨e_175, rfl⟩ := h_175
    have e_175 := e_175.symm
    subst e_175
    refine V_if_eq (tgt := 235) (pc := 178) C dX10_next_178 (by decide) (fun h_178 => ?_) (fun h_178 => ?_)
    · have h_178 := bJ_0.mp h_178
      have hq := hQ M hF g2 (fun e => (hw (by omega)).1)
      rw [lxDg, Nat.sub_self] at hq
      exact hq
    · have h_178 := bJ_1.mp h_178
      rw [bA_in (by decide)] at h_178
      exact absurd h_178.1 (by omega)
  | succ n ih =>
    intro a k v M ha hF g2 hka hw hQ
    have hE2 := hE.fr hF.n
    unfold lxDg lxNv at hQ
    have g4 : ∀ x : Int64, ((M.1, x) : wS).1 30 0 30 = nI a := fun _ => g2
    have hz := hE.2.2.1
    refine V_aload_n (pc := 160) C 0 dX10_next_160 rfl rfl ?_
    refine V_aload_n (pc := 161) C 0 dX10_next_161 rfl rfl ?_
    refine get_X10_163 (pc := 162) C (wg hG (by decide) (by decide)) dX10_next_162 ?_
    rw [g2]
    refine call_X10_166 (pc := 165) C (c_X10_byteAt (d := d - 1) hG _ hE2 (k := a) (by omega)) (by omega) (wg hG (by decide) (by decide)) (Nat.le_of_ble_eq_true rfl) dX10_next_165 (fun x_165 M_165 h_165 => ?_)
    obtain ⟨e_165, rfl⟩ := h_165
    have e_165 := e_165.symm
    subst e_165
    refine V_i2l (pc := 168) C dX10_next_168 ?_
    refine V_ldc2 (pc := 169) C dX10_next_169 qk_X10_179 ?_
    refine V_ldc2 (pc := 172) C dX10_next_172 qk_X10_181 ?_
    refine call_X10_106 (pc := 175) C (c_in (d := d - 1) _ (bA f z a) 48 57 (by decide) (by decide)) (by omega) (Nat.le_of_ble_eq_true rfl) dX10_next_175 (fun x_175 M_175 h_175 => ?_)
    obtain ⟨e_175, rfl⟩ := h_175
    have e_175 := e_175.symm
    subst e_175
    refine V_if_eq (tgt := 235) (pc := 178) C dX10_next_178 (by decide) (fun h_178 => ?_) (fun h_178 => ?_)
    · have h_178 := bJ_0.mp h_178
      rw [bA_in (by decide)] at h_178
      rw [if_neg (fun e => h_178 ⟨by omega, e⟩), if_neg (fun e => h_178 ⟨by omega, e⟩)] at hQ
      have hq := hQ M hF g2 (fun e => (hw (by omega)).1)
      rw [Nat.sub_self] at hq
      exact hq
    · have h_178 := bJ_1.mp h_178
      rw [bA_in (by decide)] at h_178
      rw [if_pos h_178.2, if_pos h_178.2] at hQ
      have hr := lxDg_r f n (a + 1)
      have g3 : bA f z a = f a := by rw [bA, if_pos (by omega)]
      refine V_aload_n (pc := 181) C 0 dX10_next_181 rfl rfl ?_
      refine V_iload_n (pc := 182) C 2 dX10_next_182 rfl rfl ?_
      refine V_iconst (v := 4) (pc := 183) C dX10_next_183 (by decide) ?_
      refine V_icmp_ge (tgt := 212) (pc := 184) C dX10_next_184 (by decide) (fun h_184 => ?_) (fun h_184 => ?_)
      · have hk4 : ¬ k ≤ 3 := fun e => absurd h_184 (nI_ge (b := 4) (by omega) (by decide))
        refine V_aload_n (pc := 212) C 0 dX10_next_212 rfl rfl ?_
        refine get_X10_183 (pc := 213) C (wg hG (by decide) (by decide)) dX10_next_213 ?_
        refine put_X10_183 (pc := 216) C (wg hG (by decide) (by decide)) dX10_next_216 ?_
        refine Vs_iinc (v := nI (k + 1)) (lv' := [(0, _), (1, _), (2, _)]) (pc := 219) C 2 dX10_next_219 rfl (by decide) rfl (nI_i1 (k)) rfl ?_
        refine V_aload_n (pc := 222) C 0 dX10_next_222 rfl rfl ?_
        refine V_dup (pc := 223) C dX10_next_223 rfl ?_
        refine get_X10_163 (pc := 224) C (wg hG (by decide) (by decide)) dX10_next_224 ?_
        refine V_iconst (v := 1) (pc := 227) C dX10_next_227 (by decide) ?_
        refine V_iadd (pc := 228) C dX10_next_228 ?_
        refine put_X10_163 (pc := 229) C (wg hG (by decide) (by decide)) dX10_next_229 ?_
        rw [g4, nI_1]
        refine V_goto (tgt := 160) (pc := 232) C dX10_next_232 (by decide) ?_
        refine ih (a + 1) (k + 1) (10 * v + f a - 48) _ (by omega) ((hF.tr frH.lg).tr (frH.set _)) ?_ (by omega) (fun e => absurd e (by omega)) (fun M' q1 q2 q3 => ?_)
        · rw [mset_at, if_pos ⟨rfl, rfl, rfl⟩]
        · have hq := hQ M' q1 q2 (fun e => absurd e (by omega))
          rw [show k + 1 + (lxDg f n (a + 1) - (a + 1)) = k + (lxDg f n (a + 1) - a) by omega]
          exact hq
      · have hk3 : k ≤ 3 := Nat.le_of_lt_succ (Nat.lt_of_not_le (fun e => h_184 (nI_le (a := 4) e (by omega))))
        obtain ⟨w1, w2⟩ := hw (by omega)
        refine V_ldc2 (pc := 187) C dX10_next_187 qk_X10_139 ?_
        refine V_aload_n (pc := 190) C 0 dX10_next_190 rfl rfl ?_
        refine get_X10_183 (pc := 191) C (wg hG (by decide) (by decide)) dX10_next_191 ?_
        refine V_lmul (pc := 194) C dX10_next_194 ?_
        refine V_aload_n (pc := 195) C 0 dX10_next_195 rfl rfl ?_
        refine V_aload_n (pc := 196) C 0 dX10_next_196 rfl rfl ?_
        refine get_X10_163 (pc := 197) C (wg hG (by decide) (by decide)) dX10_next_197 ?_
        rw [g2]
        refine call_X10_166 (pc := 200) C (c_X10_byteAt (d := d - 1) hG _ hE2 (k := a) (by omega)) (by omega) (wg hG (by decide) (by decide)) (Nat.le_of_ble_eq_true rfl) dX10_next_200 (fun x_200 M_200 h_200 => ?_)
        obtain ⟨e_200, rfl⟩ := h_200
        have e_200 := e_200.symm
        subst e_200
        refine V_i2l (pc := 203) C dX10_next_203 ?_
        refine V_ladd (pc := 204) C dX10_next_204 ?_
        refine V_ldc2 (pc := 205) C dX10_next_205 qk_X10_179 ?_
        refine V_lsub (pc := 208) C dX10_next_208 ?_
        refine V_goto (tgt := 216) (pc := 209) C dX10_next_209 (by decide) ?_
        refine put_X10_183 (pc := 216) C (wg hG (by decide) (by decide)) dX10_next_216 ?_
        refine Vs_iinc (v := nI (k + 1)) (lv' := [(0, _), (1, _), (2, _)]) (pc := 219) C 2 dX10_next_219 rfl (by decide) rfl (nI_i1 (k)) rfl ?_
        refine V_aload_n (pc := 222) C 0 dX10_next_222 rfl rfl ?_
        refine V_dup (pc := 223) C dX10_next_223 rfl ?_
        refine get_X10_163 (pc := 224) C (wg hG (by decide) (by decide)) dX10_next_224 ?_
        refine V_iconst (v := 1) (pc := 227) C dX10_next_227 (by decide) ?_
        refine V_iadd (pc := 228) C dX10_next_228 ?_
        refine put_X10_163 (pc := 229) C (wg hG (by decide) (by decide)) dX10_next_229 ?_
        rw [g4, nI_1]
        refine V_goto (tgt := 160) (pc := 232) C dX10_next_232 (by decide) ?_
        refine ih (a + 1) (k + 1) (10 * v + f a - 48) _ (by omega) ((hF.tr frH.lg).tr (frH.set _)) ?_ (by omega) (fun e => ⟨?_, ?_⟩) (fun M' q1 q2 q3 => ?_)
        · rw [mset_at, if_pos ⟨rfl, rfl, rfl⟩]
        · show 10 * M.2 + (bA f z a).toInt64 - 48 = _
          rw [w1, g3, l_dig hk3 w2 h_178.2]
        · exact ⟨(dig_step hk3 w2 h_178.2).1, (dig_step hk3 w2 h_178.2).2.1⟩
        · have hq := hQ M' q1 q2 (fun e => q3 (by omega))
          rw [show k + 1 + (lxDg f n (a + 1) - (a + 1)) = k + (lxDg f n (a + 1) - a) by omega]
          exact hq
theorem l3_X10_next {p : Program} {e : Env} {s : State} {m : MethodId} {args : Array Value} {below : List Frame} {meth : Method} {c : Code} (C : CX p s m args c cX10_next 3 "CostsAgeModel" D cy ad G (wA ad G) (Rm d) d 0 0) (hr : meth.sig.returnType = none) (hlk : meth.locks = false) (hG : 56 ≤ G) (M : wS) {b : Int32} {q : Nat} (hq : M.1 30 0 30 = nI q) (Qf : wS → Prop) (hQ : ∀ M', frN M M' → M'.1 30 0 30 = nI (q + 1) → M'.1 30 0 31 = 3 → M'.1 30 0 32 = M.1 30 0 32 → M'.2 = b.toInt64 → Qf M') : V p l e (Rm d) s m args below meth c 3 D cy ad G (wA ad G) 0 0 (MQ below (wQ D cy ad G (rV Qf)) args s 0 0 (wA ad G)) 300 [(0, .ref (ad 30 0)), (1, .int b)] [] M := by
  refine V_aload_n (pc := 300) C 0 dX10_next_300 rfl rfl ?_
  refine V_iconst (v := 3) (pc := 301) C dX10_next_301 (by decide) ?_
  refine put_X10_172 (pc := 302) C (wg hG (by decide) (by decide)) dX10_next_302 ?_
  refine V_aload_n (pc := 305) C 0 dX10_next_305 rfl rfl ?_
  refine V_iload_n (pc := 306) C 1 dX10_next_306 rfl rfl ?_
  refine V_i2l (pc := 307) C dX10_next_307 ?_
  refine put_X10_183 (pc := 308) C (wg hG (by decide) (by decide)) dX10_next_308 ?_
  refine V_aload_n (pc := 311) C 0 dX10_next_311 rfl rfl ?_
  refine V_dup (pc := 312) C dX10_next_312 rfl ?_
  refine get_X10_163 (pc := 313) C (wg hG (by decide) (by decide)) dX10_next_313 ?_
  refine V_iconst (v := 1) (pc := 316) C dX10_next_316 (by decide) ?_
  refine V_iadd (pc := 317) C dX10_next_317 ?_
  refine put_X10_163 (pc := 318) C (wg hG (by decide) (by decide)) dX10_next_318 ?_
  refine V_vret (pc := 321) C hr hlk dX10_next_321 ⟨rfl, ?_⟩
  refine hQ _ (((frN.set _ (by omega)).tr frN.lg).tr (frN.set _ (by omega))) ?_ ?_ ?_ rfl
  · rw [mset_at, if_pos ⟨rfl, rfl, rfl⟩]
    show (mset M 30 0 31 3).1 30 0 30 + 1 = _
    rw [mset_at, if_neg (by omega), hq, nI_1]
  · rw [mset_at, if_neg (by omega)]
    show (mset M 30 0 31 3).1 30 0 31 = 3
    rw [mset_at, if_pos ⟨rfl, rfl, rfl⟩]
  · rw [mset_at, if_neg (by omega)]
    show (mset M 30 0 31 3).1 30 0 32 = _
    rw [mset_at, if_neg (by omega)]
theorem c_X10_next (hG : 56 ≤ G) (hd : 2 ≤ d) (M : wS) {F z a : Nat} {f : Nat → Int32} (hE : rE M F z f) (ha : M.1 30 0 30 = nI a) (haz : a ≤ z) : Ctr l D cy ad G d yX10_next cX10_next 3 none [.ref (ad 30 0)] M (rV fun M' => frN M M' ∧ rTk M' f z (lxSk f (z - a) a)) := by
  have hr1 := lxSk_r f (z - a) a
  have hM := mset_id M ha
  have hz := hE.2.2.1
  refine Ctr.of (lv0 := [(0, _)]) (by decide) (Nat.le_of_ble_eq_true rfl) rfl ?_
  intro p e s m args below meth c C hr hlk _
  have C : CX p s m args c cX10_next 3 "CostsAgeModel" D cy ad G (wA ad G) (Rm d) d 0 0 := C
  refine V_mem hM ?_
  refine lp_X10_next C hr hlk hG (by omega) M hE _ (z - a) a (by omega) ?_
  generalize lxSk f (z - a) a = q at hr1 ⊢
  have kL : frN M (mset M 30 0 30 (nI q)) := frN.set _ (by omega)
  have k0 : (mset M 30 0 30 (nI q)).1 30 0 30 = nI q := by rw [mset_at, if_pos ⟨rfl, rfl, rfl⟩]
  generalize mset M 30 0 30 (nI q) = M1 at kL k0 ⊢
  have hE1 := hE.fr kL
  have k30 : ∀ x y, (mset (mset M1 30 0 32 x) 30 0 31 y).1 30 0 30 = nI q := fun x y => by rw [mset_at, if_neg (by omega), mset_at, if_neg (by omega)]; exact k0
  have e30 : ∀ x, (mset M1 30 0 32 x).1 30 0 30 = nI q := fun x => by rw [mset_at, if_neg (by omega)]; exact k0
  have k32 : ∀ y, (mset (mset M1 30 0 32 (nI q)) 30 0 31 y).1 30 0 32 = nI q := fun y => by rw [mset_at, if_neg (by omega), mset_at, if_pos ⟨rfl, rfl, rfl⟩]
  have kE : ∀ x y, frN M (mset (mset M1 30 0 32 x) 30 0 31 y) := fun x y => (kL.tr (frN.set _ (by omega))).tr (frN.set _ (by omega))
  have hEE : ∀ x y, rE (mset (mset M1 30 0 32 x) 30 0 31 y) F z f := fun x y => hE.fr (kE x y)
  refine V_aload_n (pc := 39) C 0 dX10_next_39 rfl rfl ?_
  refine V_aload_n (pc := 40) C 0 dX10_next_40 rfl rfl ?_
  refine get_X10_163 (pc := 41) C (wg hG (by decide) (by decide)) dX10_next_41 ?_
  refine put_X10_169 (pc := 44) C (wg hG (by decide) (by decide)) dX10_next_44 ?_
  rw [k0]
  refine V_aload_n (pc := 47) C 0 dX10_next_47 rfl rfl ?_
  refine V_aload_n (pc := 48) C 0 dX10_next_48 rfl rfl ?_
  refine get_X10_163 (pc := 49) C (wg hG (by decide) (by decide)) dX10_next_49 ?_
  rw [e30]
  refine call_X10_166 (pc := 52) C (c_X10_byteAt (d := d - 1) hG _ (hE1.fr (frN.set _ (by omega))) (k := q) (by omega)) (by omega) (wg hG (by decide) (by decide)) (Nat.le_of_ble_eq_true rfl) dX10_next_52 (fun x_52 M_52 h_52 => ?_)
  obtain ⟨e_52, rfl⟩ := h_52
  have e_52 := e_52.symm
  subst e_52
  refine Vs_istore_n (lv' := [(0, _), (1, _)]) (pc := 55) C dX10_next_55 rfl (by decide) rfl rfl ?_
  refine V_aload_n (pc := 56) C 0 dX10_next_56 rfl rfl ?_
  refine V_iconst (v := 4) (pc := 57) C dX10_next_57 (by decide) ?_
  refine put_X10_172 (pc := 58) C (wg hG (by decide) (by decide)) dX10_next_58 ?_
  refine V_iload_n (pc := 61) C 1 dX10_next_61 rfl rfl ?_
  refine V_if_ge (tgt := 81) (pc := 62) C dX10_next_62 (by decide) (fun h_62 => ?_) (fun h_62 => ?_)
  · have hlt : q < z := Nat.lt_of_not_le (fun e => by rw [bA, if_neg (by omega)] at h_62; exact absurd h_62 (by decide))
    have g3 : bA f z q = f q := by rw [bA, if_pos hlt]
    rw [g3]
    refine V_iload_n (pc := 81) C 1 dX10_next_81 rfl rfl ?_
    refine V_i2l (pc := 82) C dX10_next_82 ?_
    refine V_ldc2 (pc := 83) C dX10_next_83 qk_X10_175 ?_
    refine V_ldc2 (pc := 86) C dX10_next_86 qk_X10_177 ?_
    refine call_X10_106 (pc := 89) C (c_in (d := d - 1) _ (f q) 97 122 (by decide) (by decide)) (by omega) (Nat.le_of_ble_eq_true rfl) dX10_next_89 (fun x_89 M_89 h_89 => ?_)
    obtain ⟨e_89, rfl⟩ := h_89
    have e_89 := e_89.symm
    subst e_89
    refine V_if_eq (tgt := 134) (pc := 92) C dX10_next_92 (by decide) (fun h_92 => ?_) (fun h_92 => ?_)
    · have h_92 := bJ_0.mp h_92
      refine V_iload_n (pc := 134) C 1 dX10_next_134 rfl rfl ?_
      refine V_i2l (pc := 135) C dX10_next_135 ?_
      refine V_ldc2 (pc := 136) C dX10_next_136 qk_X10_179 ?_
      refine V_ldc2 (pc := 139) C dX10_next_139 qk_X10_181 ?_
      refine call_X10_106 (pc := 142) C (c_in (d := d - 1) _ (f q) 48 57 (by decide) (by decide)) (by omega) (Nat.le_of_ble_eq_true rfl) dX10_next_142 (fun x_142 M_142 h_142 => ?_)
      obtain ⟨e_142, rfl⟩ := h_142
      have e_142 := e_142.symm
      subst e_142
      refine V_if_eq (tgt := 252) (pc := 145) C dX10_next_145 (by decide) (fun h_145 => ?_) (fun h_145 => ?_)
      · have h_145 := bJ_0.mp h_145
        refine V_iload_n (pc := 252) C 1 dX10_next_252 rfl rfl ?_
        refine V_bipush (v := 40) (pc := 253) C dX10_next_253 (by decide) ?_
        refine V_icmp_eq (tgt := 300) (pc := 255) C dX10_next_255 (by decide) (fun h_255 => ?_) (fun h_255 => ?_)
        · have hs : pSign (f q) = true := by first | (rw [h_255]; rfl) | (rw [h_261]; rfl) | (rw [h_267]; rfl) | (rw [h_273]; rfl) | (rw [h_279]; rfl) | (rw [h_285]; rfl) | (rw [h_291]; rfl) | (rw [h_297]; rfl)
          refine l3_X10_next C hr hlk hG _ (k30 _ _) _ (fun M' q1 q2 q3 q4 q5 => ?_)
          have ek : kdF f z q = 3 := by rw [kdF, if_neg (by omega), if_neg h_92, if_neg h_145, if_pos hs]
          have eh : hrF f z q = q + 1 := by rw [hrF, if_neg (by omega), if_neg h_92, if_neg h_145, if_pos hs]
          exact ⟨(kE _ _).tr q1, by rw [q4]; exact k32 _, by rw [q3, ek], by rw [q2, eh], fun e => absurd (ek.symm.trans e) (by decide), fun _ => q5, by omega⟩
        · refine V_iload_n (pc := 258) C 1 dX10_next_258 rfl rfl ?_
          refine V_bipush (v := 41) (pc := 259) C dX10_next_259 (by decide) ?_
          refine V_icmp_eq (tgt := 300) (pc := 261) C dX10_next_261 (by decide) (fun h_261 => ?_) (fun h_261 => ?_)
          · have hs : pSign (f q) = true := by first | (rw [h_255]; rfl) | (rw [h_261]; rfl) | (rw [h_267]; rfl) | (rw [h_273]; rfl) | (rw [h_279]; rfl) | (rw [h_285]; rfl) | (rw [h_291]; rfl) | (rw [h_297]; rfl)
            refine l3_X10_next C hr hlk hG _ (k30 _ _) _ (fun M' q1 q2 q3 q4 q5 => ?_)
            have ek : kdF f z q = 3 := by rw [kdF, if_neg (by omega), if_neg h_92, if_neg h_145, if_pos hs]
            have eh : hrF f z q = q + 1 := by rw [hrF, if_neg (by omega), if_neg h_92, if_neg h_145, if_pos hs]
            exact ⟨(kE _ _).tr q1, by rw [q4]; exact k32 _, by rw [q3, ek], by rw [q2, eh], fun e => absurd (ek.symm.trans e) (by decide), fun _ => q5, by omega⟩
          · refine V_iload_n (pc := 264) C 1 dX10_next_264 rfl rfl ?_
            refine V_bipush (v := 59) (pc := 265) C dX10_next_265 (by decide) ?_
            refine V_icmp_eq (tgt := 300) (pc := 267) C dX10_next_267 (by decide) (fun h_267 => ?_) (fun h_267 => ?_)
            · have hs : pSign (f q) = true := by first | (rw [h_255]; rfl) | (rw [h_261]; rfl) | (rw [h_267]; rfl) | (rw [h_273]; rfl) | (rw [h_279]; rfl) | (rw [h_285]; rfl) | (rw [h_291]; rfl) | (rw [h_297]; rfl)
              refine l3_X10_next C hr hlk hG _ (k30 _ _) _ (fun M' q1 q2 q3 q4 q5 => ?_)
              have ek : kdF f z q = 3 := by rw [kdF, if_neg (by omega), if_neg h_92, if_neg h_145, if_pos hs]
              have eh : hrF f z q = q + 1 := by rw [hrF, if_neg (by omega), if_neg h_92, if_neg h_145, if_pos hs]
              exact ⟨(kE _ _).tr q1, by rw [q4]; exact k32 _, by rw [q3, ek], by rw [q2, eh], fun e => absurd (ek.symm.trans e) (by decide), fun _ => q5, by omega⟩
            · refine V_iload_n (pc := 270) C 1 dX10_next_270 rfl rfl ?_
              refine V_bipush (v := 43) (pc := 271) C dX10_next_271 (by decide) ?_
              refine V_icmp_eq (tgt := 300) (pc := 273) C dX10_next_273 (by decide) (fun h_273 => ?_) (fun h_273 => ?_)
              · have hs : pSign (f q) = true := by first | (rw [h_255]; rfl) | (rw [h_261]; rfl) | (rw [h_267]; rfl) | (rw [h_273]; rfl) | (rw [h_279]; rfl) | (rw [h_285]; rfl) | (rw [h_291]; rfl) | (rw [h_297]; rfl)
                refine l3_X10_next C hr hlk hG _ (k30 _ _) _ (fun M' q1 q2 q3 q4 q5 => ?_)
                have ek : kdF f z q = 3 := by rw [kdF, if_neg (by omega), if_neg h_92, if_neg h_145, if_pos hs]
                have eh : hrF f z q = q + 1 := by rw [hrF, if_neg (by omega), if_neg h_92, if_neg h_145, if_pos hs]
                exact ⟨(kE _ _).tr q1, by rw [q4]; exact k32 _, by rw [q3, ek], by rw [q2, eh], fun e => absurd (ek.symm.trans e) (by decide), fun _ => q5, by omega⟩
              · refine V_iload_n (pc := 276) C 1 dX10_next_276 rfl rfl ?_
                refine V_bipush (v := 45) (pc := 277) C dX10_next_277 (by decide) ?_
                refine V_icmp_eq (tgt := 300) (pc := 279) C dX10_next_279 (by decide) (fun h_279 => ?_) (fun h_279 => ?_)
                · have hs : pSign (f q) = true := by first | (rw [h_255]; rfl) | (rw [h_261]; rfl) | (rw [h_267]; rfl) | (rw [h_273]; rfl) | (rw [h_279]; rfl) | (rw [h_285]; rfl) | (rw [h_291]; rfl) | (rw [h_297]; rfl)
                  refine l3_X10_next C hr hlk hG _ (k30 _ _) _ (fun M' q1 q2 q3 q4 q5 => ?_)
                  have ek : kdF f z q = 3 := by rw [kdF, if_neg (by omega), if_neg h_92, if_neg h_145, if_pos hs]
                  have eh : hrF f z q = q + 1 := by rw [hrF, if_neg (by omega), if_neg h_92, if_neg h_145, if_pos hs]
                  exact ⟨(kE _ _).tr q1, by rw [q4]; exact k32 _, by rw [q3, ek], by rw [q2, eh], fun e => absurd (ek.symm.trans e) (by decide), fun _ => q5, by omega⟩
                · refine V_iload_n (pc := 282) C 1 dX10_next_282 rfl rfl ?_
                  refine V_bipush (v := 42) (pc := 283) C dX10_next_283 (by decide) ?_
                  refine V_icmp_eq (tgt := 300) (pc := 285) C dX10_next_285 (by decide) (fun h_285 => ?_) (fun h_285 => ?_)
                  · have hs : pSign (f q) = true := by first | (rw [h_255]; rfl) | (rw [h_261]; rfl) | (rw [h_267]; rfl) | (rw [h_273]; rfl) | (rw [h_279]; rfl) | (rw [h_285]; rfl) | (rw [h_291]; rfl) | (rw [h_297]; rfl)
                    refine l3_X10_next C hr hlk hG _ (k30 _ _) _ (fun M' q1 q2 q3 q4 q5 => ?_)
                    have ek : kdF f z q = 3 := by rw [kdF, if_neg (by omega), if_neg h_92, if_neg h_145, if_pos hs]
                    have eh : hrF f z q = q + 1 := by rw [hrF, if_neg (by omega), if_neg h_92, if_neg h_145, if_pos hs]
                    exact ⟨(kE _ _).tr q1, by rw [q4]; exact k32 _, by rw [q3, ek], by rw [q2, eh], fun e => absurd (ek.symm.trans e) (by decide), fun _ => q5, by omega⟩
                  · refine V_iload_n (pc := 288) C 1 dX10_next_288 rfl rfl ?_
                    refine V_bipush (v := 60) (pc := 289) C dX10_next_289 (by decide) ?_
                    refine V_icmp_eq (tgt := 300) (pc := 291) C dX10_next_291 (by decide) (fun h_291 => ?_) (fun h_291 => ?_)
                    · have hs : pSign (f q) = true := by first | (rw [h_255]; rfl) | (rw [h_261]; rfl) | (rw [h_267]; rfl) | (rw [h_273]; rfl) | (rw [h_279]; rfl) | (rw [h_285]; rfl) | (rw [h_291]; rfl) | (rw [h_297]; rfl)
                      refine l3_X10_next C hr hlk hG _ (k30 _ _) _ (fun M' q1 q2 q3 q4 q5 => ?_)
                      have ek : kdF f z q = 3 := by rw [kdF, if_neg (by omega), if_neg h_92, if_neg h_145, if_pos hs]
                      have eh : hrF f z q = q + 1 := by rw [hrF, if_neg (by omega), if_neg h_92, if_neg h_145, if_pos hs]
                      exact ⟨(kE _ _).tr q1, by rw [q4]; exact k32 _, by rw [q3, ek], by rw [q2, eh], fun e => absurd (ek.symm.trans e) (by decide), fun _ => q5, by omega⟩
                    · refine V_iload_n (pc := 294) C 1 dX10_next_294 rfl rfl ?_
                      refine V_bipush (v := 61) (pc := 295) C dX10_next_295 (by decide) ?_
                      refine V_icmp_ne (tgt := 321) (pc := 297) C dX10_next_297 (by decide) (fun h_297 => ?_) (fun h_297 => ?_)
                      · have hs : ¬ pSign (f q) = true := by simp [pSign, h_255, h_261, h_267, h_273, h_279, h_285, h_291, h_297]
                        refine V_vret (pc := 321) C hr hlk dX10_next_321 ⟨rfl, ?_⟩
                        have ek : kdF f z q = 4 := by rw [kdF, if_neg (by omega), if_neg h_92, if_neg h_145, if_neg hs]
                        have eh : hrF f z q = q := by rw [hrF, if_neg (by omega), if_neg h_92, if_neg h_145, if_neg hs]
                        exact ⟨kE _ _, k32 _, by rw [mset_at, if_pos ⟨rfl, rfl, rfl⟩, ek], by rw [eh]; exact k30 _ _, fun e => absurd (ek.symm.trans e) (by decide), fun e => absurd (ek.symm.trans e) (by decide), by omega⟩
                      · have hs : pSign (f q) = true := by first | (rw [h_255]; rfl) | (rw [h_261]; rfl) | (rw [h_267]; rfl) | (rw [h_273]; rfl) | (rw [h_279]; rfl) | (rw [h_285]; rfl) | (rw [h_291]; rfl) | (rw [h_297]; rfl)
                        refine l3_X10_next C hr hlk hG _ (k30 _ _) _ (fun M' q1 q2 q3 q4 q5 => ?_)
                        have ek : kdF f z q = 3 := by rw [kdF, if_neg (by omega), if_neg h_92, if_neg h_145, if_pos hs]
                        have eh : hrF f z q = q + 1 := by rw [hrF, if_neg (by omega), if_neg h_92, if_neg h_145, if_pos hs]
                        exact ⟨(kE _ _).tr q1, by rw [q4]; exact k32 _, by rw [q3, ek], by rw [q2, eh], fun e => absurd (ek.symm.trans e) (by decide), fun _ => q5, by omega⟩
      · have h_145 := bJ_1.mp h_145
        refine V_aload_n (pc := 148) C 0 dX10_next_148 rfl rfl ?_
        refine V_iconst (v := 2) (pc := 149) C dX10_next_149 (by decide) ?_
        refine put_X10_172 (pc := 150) C (wg hG (by decide) (by decide)) dX10_next_150 ?_
        refine V_aload_n (pc := 153) C 0 dX10_next_153 rfl rfl ?_
        refine V_lconst (v := 0) (pc := 154) C dX10_next_154 (by decide) ?_
        refine put_X10_183 (pc := 155) C (wg hG (by decide) (by decide)) dX10_next_155 ?_
        refine V_iconst (v := 0) (pc := 158) C dX10_next_158 (by decide) ?_
        refine Vs_istore_n (lv' := [(0, _), (1, _), (2, _)]) (pc := 159) C dX10_next_159 rfl (by decide) rfl rfl ?_
        refine lr_X10_next (z := z) (f := f) (F := F) C hr hlk hG hd _ ?_ _ _ (z - q) q 0 0 _ (by omega) frH.rf ?_ (Nat.zero_le _) (fun _ => ⟨rfl, by decide, by decide⟩) (fun M' q1 q2 q3 => ?_)
        · exact hE.fr (((kE _ _).tr (frN.set _ (by omega))).tr frN.lg)
        · show (mset (mset (mset M1 30 0 32 (nI q)) 30 0 31 4) 30 0 31 2).1 30 0 30 = nI q
          rw [mset_at, if_neg (by omega)]
          exact k30 _ _
        rw [Nat.zero_add] at q3 ⊢
        have hr2 := lxDg_r f (z - q) q
        refine V_aload_n (pc := 235) C 0 dX10_next_235 rfl rfl ?_
        refine V_iload_n (pc := 236) C 2 dX10_next_236 rfl rfl ?_
        refine V_iconst (v := 4) (pc := 237) C dX10_next_237 (by decide) ?_
        refine V_icmp_le (tgt := 245) (pc := 238) C dX10_next_238 (by decide) (fun h_238 => ?_) (fun h_238 => ?_)
        · have h4 : lxDg f (z - q) q - q ≤ 4 := (nI_leI (b := 4) (by omega) (by decide)).mp h_238
          refine V_iconst (v := 2) (pc := 245) C dX10_next_245 (by decide) ?_
          refine put_X10_172 (pc := 246) C (wg hG (by decide) (by decide)) dX10_next_246 ?_
          refine V_goto (tgt := 321) (pc := 249) C dX10_next_249 (by decide) ?_
          refine V_vret (pc := 321) C hr hlk dX10_next_321 ⟨rfl, ?_⟩
          have ek : kdF f z q = 2 := by rw [kdF, if_neg (by omega), if_neg h_92, if_pos h_145, if_pos h4]
          have eh : hrF f z q = lxDg f (z - q) q := by rw [hrF, if_neg (by omega), if_neg h_92, if_pos h_145]
          refine ⟨((((kE _ _).tr (frN.set _ (by omega))).tr frN.lg).tr q1.n).tr (frN.set _ (by omega)), ?_, ?_, ?_, fun _ => q3 h4, fun e => absurd (ek.symm.trans e) (by decide), by omega⟩
          · rw [mset_at, if_neg (by omega), q1.2 32 (by decide)]
            show (mset (mset (mset M1 30 0 32 (nI q)) 30 0 31 4) 30 0 31 2).1 30 0 32 = nI q
            rw [mset_at, if_neg (by omega)]
            exact k32 _
          · rw [mset_at, if_pos ⟨rfl, rfl, rfl⟩, ek]
          · rw [mset_at, if_neg (by omega), q2, eh]
        · have h4 : ¬ lxDg f (z - q) q - q ≤ 4 := fun e => h_238 ((nI_leI (b := 4) (by omega) (by decide)).mpr e)
          refine V_iconst (v := 4) (pc := 241) C dX10_next_241 (by decide) ?_
          refine V_goto (tgt := 246) (pc := 242) C dX10_next_242 (by decide) ?_
          refine put_X10_172 (pc := 246) C (wg hG (by decide) (by decide)) dX10_next_246 ?_
          refine V_goto (tgt := 321) (pc := 249) C dX10_next_249 (by decide) ?_
          refine V_vret (pc := 321) C hr hlk dX10_next_321 ⟨rfl, ?_⟩
          have ek : kdF f z q = 4 := by rw [kdF, if_neg (by omega), if_neg h_92, if_pos h_145, if_neg h4]
          have eh : hrF f z q = lxDg f (z - q) q := by rw [hrF, if_neg (by omega), if_neg h_92, if_pos h_145]
          refine ⟨((((kE _ _).tr (frN.set _ (by omega))).tr frN.lg).tr q1.n).tr (frN.set _ (by omega)), ?_, ?_, ?_, fun e => absurd (ek.symm.trans e) (by decide), fun e => absurd (ek.symm.trans e) (by decide), by omega⟩
          · rw [mset_at, if_neg (by omega), q1.2 32 (by decide)]
            show (mset (mset (mset M1 30 0 32 (nI q)) 30 0 31 4) 30 0 31 2).1 30 0 32 = nI q
            rw [mset_at, if_neg (by omega)]
            exact k32 _
          · rw [mset_at, if_pos ⟨rfl, rfl, rfl⟩, ek]
          · rw [mset_at, if_neg (by omega), q2, eh]
    · have h_92 := bJ_1.mp h_92
      refine V_aload_n (pc := 95) C 0 dX10_next_95 rfl rfl ?_
      refine V_iconst (v := 1) (pc := 96) C dX10_next_96 (by decide) ?_
      refine put_X10_172 (pc := 97) C (wg hG (by decide) (by decide)) dX10_next_97 ?_
      have e1 : (mset (mset (mset M1 30 0 32 (nI q)) 30 0 31 4) 30 0 31 1).1 30 0 30 = nI q := by rw [mset_at, if_neg (by omega)]; exact k30 _ _
      refine V_mem (mset_id _ e1) ?_
      refine lq_X10_next C hr hlk hG hd _ (hE.fr ((kE _ _).tr (frN.set _ (by omega)))) _ _ (z - q) q (by omega) ?_
      refine V_vret (pc := 321) C hr hlk dX10_next_321 ⟨rfl, ?_⟩
      have ek : kdF f z q = 1 := by rw [kdF, if_neg (by omega), if_pos h_92]
      have eh : hrF f z q = lxWd f (z - q) q := by rw [hrF, if_neg (by omega), if_pos h_92]
      refine ⟨((kE _ _).tr (frN.set _ (by omega))).tr (frN.set _ (by omega)), ?_, ?_, ?_, fun e => absurd (ek.symm.trans e) (by decide), fun e => absurd (ek.symm.trans e) (by decide), by omega⟩
      · rw [mset_at, if_neg (by omega), mset_at, if_neg (by omega)]
        exact k32 _
      · rw [mset_at, if_neg (by omega), mset_at, if_pos ⟨rfl, rfl, rfl⟩, ek]
      · rw [mset_at, if_pos ⟨rfl, rfl, rfl⟩, eh]
  · have hge : z ≤ q := Nat.le_of_not_lt (fun e => h_62 (by rw [bA, if_pos e]; exact hE.2.2.2.2.2 q e))
    have hqz : q = z := by omega
    have e2 : (mset (mset (mset M1 30 0 32 (nI q)) 30 0 31 4) 30 0 31 0).1 30 0 29 = nI z := by rw [mset_at, if_neg (by omega)]; exact (hEE _ _).2.1
    refine V_aload_n (pc := 65) C 0 dX10_next_65 rfl rfl ?_
    refine V_iconst (v := 0) (pc := 66) C dX10_next_66 (by decide) ?_
    refine put_X10_172 (pc := 67) C (wg hG (by decide) (by decide)) dX10_next_67 ?_
    refine V_aload_n (pc := 70) C 0 dX10_next_70 rfl rfl ?_
    refine V_aload_n (pc := 71) C 0 dX10_next_71 rfl rfl ?_
    refine get_X10_157 (pc := 72) C (wg hG (by decide) (by decide)) dX10_next_72 ?_
    refine put_X10_169 (pc := 75) C (wg hG (by decide) (by decide)) dX10_next_75 ?_
    rw [e2]
    refine V_goto (tgt := 321) (pc := 78) C dX10_next_78 (by decide) ?_
    refine V_vret (pc := 321) C hr hlk dX10_next_321 ⟨rfl, ?_⟩
    have ek : kdF f z q = 0 := by rw [kdF, if_pos hge]
    have eh : hrF f z q = q := by rw [hrF, if_pos hge]
    refine ⟨((kE _ _).tr (frN.set _ (by omega))).tr (frN.set _ (by omega)), ?_, ?_, ?_, fun e => absurd (ek.symm.trans e) (by decide), fun e => absurd (ek.symm.trans e) (by decide), by omega⟩
    · rw [mset_at, if_pos ⟨rfl, rfl, rfl⟩, hqz]
    · rw [mset_at, if_neg (by omega), mset_at, if_pos ⟨rfl, rfl, rfl⟩, ek]
    · rw [mset_at, if_neg (by omega), mset_at, if_neg (by omega), eh]
      exact k30 _ _
end S50
