section S49
variable {l : Launch} {D : va_G} {cy : Nat → ClassId} {ad : Nat → Nat → Nat} {G d : Nat}
theorem bI_congr {P Q : Prop} {i : Decidable P} {j : Decidable Q} (h : P ↔ Q) : @bI P i = @bI Q j := by
  by_cases hp : P
  · rw [← bI_t hp, ← bI_t (h.mp hp)]
  · rw [← bI_f hp, ← bI_f (fun q => hp (h.mpr q))]
theorem c_X10_in (M : wS) (v a b : Int64) : Ctr l D cy ad G d yX10_in cX10_in 6 (some .boolean) [.long v, .long a, .long b] M (rI fun x M' => M' = M ∧ x = bI (a ≤ v ∧ v ≤ b)) := by
  refine Ctr.of (lv0 := [(0, _), (2, _), (4, _)]) (by decide) (Nat.le_of_ble_eq_true rfl) rfl ?_
  intro p e s m args below meth c C hr hlk _
  have C : CX p s m args c cX10_in 6 "CostsAgeModel" D cy ad G (wA ad G) (Rm d) d 0 0 := C
  refine V_lload_n (pc := 0) C 0 dX10_in_0 rfl rfl ?_
  refine V_lload_n (pc := 1) C 1 dX10_in_1 rfl rfl ?_
  refine V_lcmp (pc := 2) C dX10_in_2 ?_
  refine V_if_lt (tgt := 17) (pc := 3) C dX10_in_3 (by decide) (fun h_3 => ?_) (fun h_3 => ?_)
  · refine V_iconst (v := 0) (pc := 17) C dX10_in_17 (by decide) ?_
    refine V_zret (pc := 18) C hr hlk rfl dX10_in_18 ⟨_, rfl, ?_⟩
    exact ⟨rfl, bI_f (fun z => absurd z.1 (Int64.not_le.mpr ((lg_cmp_lt _ _).mp h_3)))⟩
  · refine V_lload_n (pc := 6) C 0 dX10_in_6 rfl rfl ?_
    refine V_lload (pc := 7) C 2 dX10_in_7 rfl ?_
    refine V_lcmp (pc := 9) C dX10_in_9 ?_
    refine V_if_gt (tgt := 17) (pc := 10) C dX10_in_10 (by decide) (fun h_10 => ?_) (fun h_10 => ?_)
    · refine V_iconst (v := 0) (pc := 17) C dX10_in_17 (by decide) ?_
      refine V_zret (pc := 18) C hr hlk rfl dX10_in_18 ⟨_, rfl, ?_⟩
      exact ⟨rfl, bI_f (fun z => absurd z.2 (Int64.not_le.mpr ((lg_cmp_gt _ _).mp h_10)))⟩
    · refine V_iconst (v := 1) (pc := 13) C dX10_in_13 (by decide) ?_
      refine V_goto (tgt := 18) (pc := 14) C dX10_in_14 (by decide) ?_
      refine V_zret (pc := 18) C hr hlk rfl dX10_in_18 ⟨_, rfl, ?_⟩
      exact ⟨rfl, bI_t ⟨Int64.not_lt.mp (fun e => h_3 ((lg_cmp_lt _ _).mpr e)), Int64.not_lt.mp (fun e => h_10 ((lg_cmp_gt _ _).mpr e))⟩⟩
theorem l_le (v w : Int32) : v.toInt64 ≤ w.toInt64 ↔ v ≤ w := by
  rw [Int64.le_iff_toInt_le, Int32.le_iff_toInt_le, Int32.toInt_toInt64, Int32.toInt_toInt64]
/-- in, of ints -/
theorem c_in (M : wS) (v A B : Int32) {a b : Int64} (ha : a = A.toInt64) (hb : b = B.toInt64) : Ctr l D cy ad G d yX10_in cX10_in 6 (some .boolean) [.long v.toInt64, .long a, .long b] M (rI fun x M' => M' = M ∧ x = bI (A ≤ v ∧ v ≤ B)) := by
  refine Ctr.weaken (c_X10_in M v.toInt64 a b) ?_
  rintro r M' ⟨x, hx, h1, h2⟩
  refine ⟨x, hx, h1, h2.trans (bI_congr ?_)⟩
  rw [ha, hb, l_le, l_le]
theorem c_X10_within (M : wS) (v a b : Int32) : Ctr l D cy ad G d yX10_within cX10_within 3 (some .int) [.int v, .int a, .int b] M (rI fun x M' => M' = M ∧ x = if v < a then a else if b < v then b else v) := by
  refine Ctr.of (lv0 := [(0, _), (1, _), (2, _)]) (by decide) (Nat.le_of_ble_eq_true rfl) rfl ?_
  intro p e s m args below meth c C hr hlk _
  have C : CX p s m args c cX10_within 3 "CostsAgeModel" D cy ad G (wA ad G) (Rm d) d 0 0 := C
  refine V_iload_n (pc := 0) C 0 dX10_within_0 rfl rfl ?_
  refine V_iload_n (pc := 1) C 1 dX10_within_1 rfl rfl ?_
  refine V_icmp_ge (tgt := 9) (pc := 2) C dX10_within_2 (by decide) (fun h_2 => ?_) (fun h_2 => ?_)
  · refine V_iload_n (pc := 9) C 0 dX10_within_9 rfl rfl ?_
    refine V_iload_n (pc := 10) C 2 dX10_within_10 rfl rfl ?_
    refine V_icmp_le (tgt := 18) (pc := 11) C dX10_within_11 (by decide) (fun h_11 => ?_) (fun h_11 => ?_)
    · refine V_iload_n (pc := 18) C 0 dX10_within_18 rfl rfl ?_
      refine V_iret (pc := 19) C hr hlk dX10_within_19 ⟨_, rfl, ?_⟩
      first | (rw [if_neg (Int32.not_lt.mpr h_2), if_neg (Int32.not_lt.mpr h_11)]; exact ⟨rfl, rfl⟩) | (rw [if_neg (Int32.not_lt.mpr h_2), if_pos (Int32.not_le.mp h_11)]; exact ⟨rfl, rfl⟩) | (rw [if_pos (Int32.not_le.mp h_2)]; exact ⟨rfl, rfl⟩)
    · refine V_iload_n (pc := 14) C 2 dX10_within_14 rfl rfl ?_
      refine V_goto (tgt := 19) (pc := 15) C dX10_within_15 (by decide) ?_
      refine V_iret (pc := 19) C hr hlk dX10_within_19 ⟨_, rfl, ?_⟩
      first | (rw [if_neg (Int32.not_lt.mpr h_2), if_neg (Int32.not_lt.mpr h_11)]; exact ⟨rfl, rfl⟩) | (rw [if_neg (Int32.not_lt.mpr h_2), if_pos (Int32.not_le.mp h_11)]; exact ⟨rfl, rfl⟩) | (rw [if_pos (Int32.not_le.mp h_2)]; exact ⟨rfl, rfl⟩)
  · refine V_iload_n (pc := 5) C 1 dX10_within_5 rfl rfl ?_
    refine V_goto (tgt := 19) (pc := 6) C dX10_within_6 (by decide) ?_
    refine V_iret (pc := 19) C hr hlk dX10_within_19 ⟨_, rfl, ?_⟩
    first | (rw [if_neg (Int32.not_lt.mpr h_2), if_neg (Int32.not_lt.mpr h_11)]; exact ⟨rfl, rfl⟩) | (rw [if_neg (Int32.not_lt.mpr h_2), if_pos (Int32.not_le.mp h_11)]; exact ⟨rfl, rfl⟩) | (rw [if_pos (Int32.not_le.mp h_2)]; exact ⟨rfl, rfl⟩)
theorem bits_step : ∀ m, m < 128 → m = 0 ∨ (m &&& (m - 1) < 128 ∧ pc7 (m &&& (m - 1)) + 1 = pc7 m ∧ nI m &&& (nI m - 1) = nI (m &&& (m - 1))) := by decide +kernel
theorem lp_X10_bitsOf {p : Program} {e : Env} {s : State} {m : MethodId} {args : Array Value} {below : List Frame} {meth : Method} {c : Code} (C : CX p s m args c cX10_bitsOf 3 "CostsAgeModel" D cy ad G (wA ad G) (Rm d) d 0 0) (hr : meth.sig.returnType = (some .int)) (hlk : meth.locks = false) (M : wS) (a0 : Int32) (Qf : Int32 → wS → Prop) : ∀ (n u cnt : Nat), pc7 u = n → u < 128 → Qf (nI (cnt + n)) M → V p l e (Rm d) s m args below meth c 3 D cy ad G (wA ad G) 0 0 (MQ below (wQ D cy ad G (rI Qf)) args s 0 0 (wA ad G)) 4 [(0, .int a0), (1, .int (nI cnt)), (2, .int (nI u))] [] M := by
  intro n
  induction n with
  | zero =>
    intro u cnt hp hm hQ
    have h0 : u = 0 := (pc7_lt u hm).2.mp hp
    subst h0
    refine V_iload_n (pc := 4) C 2 dX10_bitsOf_4 rfl rfl ?_
    refine V_if_eq (tgt := 20) (pc := 5) C dX10_bitsOf_5 (by decide) (fun h_5 => ?_) (fun h_5 => ?_)
    · refine V_iload_n (pc := 20) C 1 dX10_bitsOf_20 rfl rfl ?_
      refine V_iret (pc := 21) C hr hlk dX10_bitsOf_21 ⟨_, rfl, ?_⟩
      exact hQ
    · exact absurd rfl h_5
  | succ n ih =>
    intro u cnt hp hm hQ
    have h0 : ¬ u = 0 := fun e => by
      rw [e] at hp
      exact absurd hp (Nat.ne_of_lt (Nat.succ_pos n))
    obtain ⟨b1, b2, b3⟩ := (bits_step u hm).resolve_left h0
    refine V_iload_n (pc := 4) C 2 dX10_bitsOf_4 rfl rfl ?_
    refine V_if_eq (tgt := 20) (pc := 5) C dX10_bitsOf_5 (by decide) (fun h_5 => ?_) (fun h_5 => ?_)
    · exact absurd h_5 (nI_ne0 (by omega) (by omega))
    · refine Vs_iinc (v := nI (cnt + 1)) (lv' := [(0, _), (1, _), (2, _)]) (pc := 8) C 1 dX10_bitsOf_8 rfl (by decide) rfl (nI_i1 (cnt)) rfl ?_
      refine V_iload_n (pc := 11) C 2 dX10_bitsOf_11 rfl rfl ?_
      refine V_iload_n (pc := 12) C 2 dX10_bitsOf_12 rfl rfl ?_
      refine V_iconst (v := 1) (pc := 13) C dX10_bitsOf_13 (by decide) ?_
      refine V_isub (pc := 14) C dX10_bitsOf_14 ?_
      refine V_iand (pc := 15) C dX10_bitsOf_15 ?_
      refine Vs_istore_n (lv' := [(0, _), (1, _), (2, _)]) (pc := 16) C dX10_bitsOf_16 rfl (by decide) rfl rfl ?_
      refine V_goto (tgt := 4) (pc := 17) C dX10_bitsOf_17 (by decide) ?_
      rw [b3]
      exact ih _ (cnt + 1) (by omega) b1 (by rw [show cnt + 1 + n = cnt + (n + 1) by omega]; exact hQ)
theorem c_X10_bitsOf (M : wS) {k : Nat} (hk : k < 128) : Ctr l D cy ad G d yX10_bitsOf cX10_bitsOf 3 (some .int) [.int (nI k)] M (rI fun x M' => M' = M ∧ x = nI (pc7 k)) := by
  refine Ctr.of (lv0 := [(0, _)]) (by decide) (Nat.le_of_ble_eq_true rfl) rfl ?_
  intro p e s m args below meth c C hr hlk _
  have C : CX p s m args c cX10_bitsOf 3 "CostsAgeModel" D cy ad G (wA ad G) (Rm d) d 0 0 := C
  refine V_iconst (v := 0) (pc := 0) C dX10_bitsOf_0 (by decide) ?_
  refine Vs_istore_n (lv' := [(0, _), (1, _)]) (pc := 1) C dX10_bitsOf_1 rfl (by decide) rfl rfl ?_
  refine V_iload_n (pc := 2) C 0 dX10_bitsOf_2 rfl rfl ?_
  refine Vs_istore_n (lv' := [(0, _), (1, _), (2, _)]) (pc := 3) C dX10_bitsOf_3 rfl (by decide) rfl rfl ?_
  exact lp_X10_bitsOf C hr hlk M _ _ (pc7 k) k 0 rfl hk ⟨rfl, by rw [Nat.zero_add]⟩
theorem c_X10_isBuyer (hG : 56 ≤ G) (hd : 1 ≤ d) (M : wS) {nb : Nat} (hnb : M.1 30 0 12 = nI nb) (h7 : nb ≤ 7) (b : Int32) : Ctr l D cy ad G d yX10_isBuyer cX10_isBuyer 2 (some .boolean) [.ref (ad 30 0), .int b] M (rI fun x M' => M' = M ∧ x = bI (0 ≤ b ∧ b < nI nb)) := by
  have key : (0 ≤ b ∧ b ≤ nI nb - 1) ↔ (0 ≤ b ∧ b < nI nb) := by
    have h1 : (nI nb).toInt = (nb : Int) := nI_toInt (by omega)
    rw [Int32.le_iff_toInt_le, Int32.le_iff_toInt_le, Int32.lt_iff_toInt_lt, Int32.toInt_sub, h1]
    simp only [Int.bmod, Int32.reduceToInt]
    omega
  refine Ctr.of (lv0 := [(0, _), (1, _)]) (by decide) (Nat.le_of_ble_eq_true rfl) rfl ?_
  intro p e s m args below meth c C hr hlk _
  have C : CX p s m args c cX10_isBuyer 2 "CostsAgeModel" D cy ad G (wA ad G) (Rm d) d 0 0 := C
  refine V_iload_n (pc := 0) C 1 dX10_isBuyer_0 rfl rfl ?_
  refine V_i2l (pc := 1) C dX10_isBuyer_1 ?_
  refine V_lconst (v := 0) (pc := 2) C dX10_isBuyer_2 (by decide) ?_
  refine V_aload_n (pc := 3) C 0 dX10_isBuyer_3 rfl rfl ?_
  refine get_X10_103 (pc := 4) C (wg hG (by decide) (by decide)) dX10_isBuyer_4 ?_
  refine V_iconst (v := 1) (pc := 7) C dX10_isBuyer_7 (by decide) ?_
  refine V_isub (pc := 8) C dX10_isBuyer_8 ?_
  refine V_i2l (pc := 9) C dX10_isBuyer_9 ?_
  rw [hnb]
  refine call_X10_106 (pc := 10) C (c_in (d := d - 1) M b 0 (nI nb - 1) (by decide) rfl) (by omega) (Nat.le_of_ble_eq_true rfl) dX10_isBuyer_10 (fun x_10 M_10 h_10 => ?_)
  obtain ⟨e_10, rfl⟩ := h_10
  have e_10 := e_10.symm
  subst e_10
  refine V_zret (pc := 13) C hr hlk (by rcases Classical.em (0 ≤ b ∧ b ≤ nI nb - 1) with z | z; (rw [← bI_t z]; rfl); (rw [← bI_f z]; rfl)) dX10_isBuyer_13 ⟨_, rfl, ?_⟩
  exact ⟨rfl, bI_congr key⟩
theorem c_X10_isThing (hG : 56 ≤ G) (hd : 1 ≤ d) (M : wS) {nb : Nat} (hnb : M.1 30 0 16 = nI nb) (h7 : nb ≤ 7) (b : Int32) : Ctr l D cy ad G d yX10_isThing cX10_isThing 2 (some .boolean) [.ref (ad 30 0), .int b] M (rI fun x M' => M' = M ∧ x = bI (0 ≤ b ∧ b < nI nb)) := by
  have key : (0 ≤ b ∧ b ≤ nI nb - 1) ↔ (0 ≤ b ∧ b < nI nb) := by
    have h1 : (nI nb).toInt = (nb : Int) := nI_toInt (by omega)
    rw [Int32.le_iff_toInt_le, Int32.le_iff_toInt_le, Int32.lt_iff_toInt_lt, Int32.toInt_sub, h1]
    simp only [Int.bmod, Int32.reduceToInt]
    omega
  refine Ctr.of (lv0 := [(0, _), (1, _)]) (by decide) (Nat.le_of_ble_eq_true rfl) rfl ?_
  intro p e s m args below meth c C hr hlk _
  have C : CX p s m args c cX10_isThing 2 "CostsAgeModel" D cy ad G (wA ad G) (Rm d) d 0 0 := C
  refine V_iload_n (pc := 0) C 1 dX10_isThing_0 rfl rfl ?_
  refine V_i2l (pc := 1) C dX10_isThing_1 ?_
  refine V_lconst (v := 0) (pc := 2) C dX10_isThing_2 (by decide) ?_
  refine V_aload_n (pc := 3) C 0 dX10_isThing_3 rfl rfl ?_
  refine get_X10_110 (pc := 4) C (wg hG (by decide) (by decide)) dX10_isThing_4 ?_
  refine V_iconst (v := 1) (pc := 7) C dX10_isThing_7 (by decide) ?_
  refine V_isub (pc := 8) C dX10_isThing_8 ?_
  refine V_i2l (pc := 9) C dX10_isThing_9 ?_
  rw [hnb]
  refine call_X10_106 (pc := 10) C (c_in (d := d - 1) M b 0 (nI nb - 1) (by decide) rfl) (by omega) (Nat.le_of_ble_eq_true rfl) dX10_isThing_10 (fun x_10 M_10 h_10 => ?_)
  obtain ⟨e_10, rfl⟩ := h_10
  have e_10 := e_10.symm
  subst e_10
  refine V_zret (pc := 13) C hr hlk (by rcases Classical.em (0 ≤ b ∧ b ≤ nI nb - 1) with z | z; (rw [← bI_t z]; rfl); (rw [← bI_f z]; rfl)) dX10_isThing_13 ⟨_, rfl, ?_⟩
  exact ⟨rfl, bI_congr key⟩
theorem c_X10_left (hG : 56 ≤ G) (M : wS) : Ctr l D cy ad G d yX10_left cX10_left 1 (some .int) [.ref (ad 30 0)] M (rI fun x M' => M' = M ∧ x = (1 <<< (M.1 30 0 16 &&& 31) - 1) &&& (M.1 30 0 17 ^^^ -1)) := by
  refine Ctr.of (lv0 := [(0, _)]) (by decide) (Nat.le_of_ble_eq_true rfl) rfl ?_
  intro p e s m args below meth c C hr hlk _
  have C : CX p s m args c cX10_left 1 "CostsAgeModel" D cy ad G (wA ad G) (Rm d) d 0 0 := C
  refine V_iconst (v := 1) (pc := 0) C dX10_left_0 (by decide) ?_
  refine V_aload_n (pc := 1) C 0 dX10_left_1 rfl rfl ?_
  refine get_X10_110 (pc := 2) C (wg hG (by decide) (by decide)) dX10_left_2 ?_
  refine V_ishl (pc := 5) C dX10_left_5 ?_
  refine V_iconst (v := 1) (pc := 6) C dX10_left_6 (by decide) ?_
  refine V_isub (pc := 7) C dX10_left_7 ?_
  refine V_aload_n (pc := 8) C 0 dX10_left_8 rfl rfl ?_
  refine get_X10_113 (pc := 9) C (wg hG (by decide) (by decide)) dX10_left_9 ?_
  refine V_iconst (v := -1) (pc := 12) C dX10_left_12 (by decide) ?_
  refine V_ixor (pc := 13) C dX10_left_13 ?_
  refine V_iand (pc := 14) C dX10_left_14 ?_
  refine V_iret (pc := 15) C hr hlk dX10_left_15 ⟨_, rfl, ?_⟩
  exact ⟨rfl, rfl⟩
/-- the bytes that the reference reads: from F on, z of them -/
def rE (M : wS) (F z : Nat) (f : Nat → Int32) : Prop := M.1 30 0 28 = nI F ∧ M.1 30 0 29 = nI z ∧ z ≤ 160 ∧ F + 160 ≤ 960 ∧ (∀ k, k < z → M.1 31 0 (F + k) = f k) ∧ ∀ k, k < z → 0 ≤ f k
def bA (f : Nat → Int32) (z k : Nat) : Int32 := if k < z then f k else -1
theorem c_X10_byteAt (hG : 56 ≤ G) (M : wS) {F z : Nat} {f : Nat → Int32} (hE : rE M F z f) {k : Nat} (hk : k ≤ z) : Ctr l D cy ad G d yX10_byteAt cX10_byteAt 2 (some .int) [.ref (ad 30 0), .int (nI k)] M (rI fun x M' => M' = M ∧ x = bA f z k) := by
  obtain ⟨h1, h2, h3, h4, h5, h6⟩ := hE
  refine Ctr.of (lv0 := [(0, _), (1, _)]) (by decide) (Nat.le_of_ble_eq_true rfl) rfl ?_
  intro p e s m args below meth c C hr hlk _
  have C : CX p s m args c cX10_byteAt 2 "CostsAgeModel" D cy ad G (wA ad G) (Rm d) d 0 0 := C
  refine V_iload_n (pc := 0) C 1 dX10_byteAt_0 rfl rfl ?_
  refine V_aload_n (pc := 1) C 0 dX10_byteAt_1 rfl rfl ?_
  refine get_X10_157 (pc := 2) C (wg hG (by decide) (by decide)) dX10_byteAt_2 ?_
  refine V_icmp_ge (tgt := 22) (pc := 5) C dX10_byteAt_5 (by decide) (fun h_5 => ?_) (fun h_5 => ?_)
  · rw [h2] at h_5
    have hlt : ¬ k < z := fun e => absurd h_5 (nI_ge e (by omega))
    refine V_iconst (v := -1) (pc := 22) C dX10_byteAt_22 (by decide) ?_
    refine V_iret (pc := 23) C hr hlk dX10_byteAt_23 ⟨_, rfl, ?_⟩
    exact ⟨rfl, by rw [bA, if_neg hlt]⟩
  · rw [h2] at h_5
    have hlt : k < z := Nat.lt_of_not_le (fun e => h_5 (nI_le e (by omega)))
    refine V_aload_n (pc := 8) C 0 dX10_byteAt_8 rfl rfl ?_
    refine get_X10_13 (pc := 9) C (wg hG (by decide) (by decide)) dX10_byteAt_9 ?_
    refine V_aload_n (pc := 12) C 0 dX10_byteAt_12 rfl rfl ?_
    refine get_X10_160 (pc := 13) C (wg hG (by decide) (by decide)) dX10_byteAt_13 ?_
    refine V_iload_n (pc := 16) C 1 dX10_byteAt_16 rfl rfl ?_
    refine V_iadd (pc := 17) C dX10_byteAt_17 ?_
    refine V_iald (pc := 18) C (F + k) (by rw [h1, nI_add]) (by omega) (Nat.le_of_ble_eq_true rfl) (wg hG (by decide) (by decide)) wF_31 dX10_byteAt_18 ?_
    refine V_goto (tgt := 23) (pc := 19) C dX10_byteAt_19 (by decide) ?_
    refine V_iret (pc := 23) C hr hlk dX10_byteAt_23 ⟨_, rfl, ?_⟩
    exact ⟨rfl, by rw [bA, if_pos hlt, h5 k hlt]⟩
theorem c_X10_fail (hG : 56 ≤ G) (M : wS) : Ctr l D cy ad G d yX10_fail cX10_fail 1 none [.ref (ad 30 0)] M (rV fun M' => M' = if M.1 30 0 35 = 0 then mset (mset M 30 0 35 1) 30 0 36 (M.1 30 0 32) else M) := by
  refine Ctr.of (lv0 := [(0, _)]) (by decide) (Nat.le_of_ble_eq_true rfl) rfl ?_
  intro p e s m args below meth c C hr hlk _
  have C : CX p s m args c cX10_fail 1 "CostsAgeModel" D cy ad G (wA ad G) (Rm d) d 0 0 := C
  refine V_aload_n (pc := 0) C 0 dX10_fail_0 rfl rfl ?_
  refine get_X10_187 (pc := 1) C (wg hG (by decide) (by decide)) dX10_fail_1 ?_
  refine V_if_ne (tgt := 20) (pc := 4) C dX10_fail_4 (by decide) (fun h_4 => ?_) (fun h_4 => ?_)
  · refine V_vret (pc := 20) C hr hlk dX10_fail_20 ⟨rfl, ?_⟩
    first | (rw [if_neg h_4]) | (rw [if_pos (Decidable.not_not.mp h_4)]; rw [mset_at, if_neg (by omega)])
  · refine V_aload_n (pc := 7) C 0 dX10_fail_7 rfl rfl ?_
    refine V_iconst (v := 1) (pc := 8) C dX10_fail_8 (by decide) ?_
    refine put_X10_187 (pc := 9) C rfl rfl (wg hG (by decide) (by decide)) dX10_fail_9 ?_
    refine V_aload_n (pc := 12) C 0 dX10_fail_12 rfl rfl ?_
    refine V_aload_n (pc := 13) C 0 dX10_fail_13 rfl rfl ?_
    refine get_X10_169 (pc := 14) C (wg hG (by decide) (by decide)) dX10_fail_14 ?_
    refine put_X10_191 (pc := 17) C (wg hG (by decide) (by decide)) dX10_fail_17 ?_
    refine V_vret (pc := 20) C hr hlk dX10_fail_20 ⟨rfl, ?_⟩
    first | (rw [if_pos h_4]; rw [mset_at, if_neg (by omega)]) | (rw [if_neg h_4])
/-- nothing but the place and the TOKEN has changed (and the long) -/
def frN (M M' : wS) : Prop := (∀ g i, g ≠ 30 → M'.1 g i = M.1 g i) ∧ ∀ k, k ≠ 30 → k ≠ 31 → k ≠ 32 → M'.1 30 0 k = M.1 30 0 k
theorem frN.rf {M : wS} : frN M M := ⟨fun _ _ _ => rfl, fun _ _ _ _ => rfl⟩
theorem frN.tr {M M1 M2 : wS} (h : frN M M1) (h2 : frN M1 M2) : frN M M2 := ⟨fun g i a => (h2.1 g i a).trans (h.1 g i a), fun k a b c => (h2.2 k a b c).trans (h.2 k a b c)⟩
theorem frN.set {M : wS} {k : Nat} (x : Int32) (hk : k = 30 ∨ k = 31 ∨ k = 32) : frN M (mset M 30 0 k x) := by
  refine ⟨fun g i h => ?_, fun j a b c => ?_⟩
  · funext j
    rw [mset_at, if_neg (fun e => h e.1)]
  · rw [mset_at, if_neg (fun e => by omega)]
theorem frN.lg {M : wS} {x : Int64} : frN M ((M.1, x) : wS) := ⟨fun _ _ _ => rfl, fun _ _ _ _ => rfl⟩
theorem rE.fr {M M' : wS} {F z : Nat} {f : Nat → Int32} (h : frN M M') (hE : rE M F z f) : rE M' F z f := by
  obtain ⟨h1, h2, h3, h4, h5, h6⟩ := hE
  exact ⟨by rw [h.2 28 (by decide) (by decide) (by decide)]; exact h1, by rw [h.2 29 (by decide) (by decide) (by decide)]; exact h2, h3, h4, fun k hk => by rw [h.1 31 0 (by decide)]; exact h5 k hk, h6⟩
def frH (M M' : wS) : Prop := (∀ g i, g ≠ 30 → M'.1 g i = M.1 g i) ∧ ∀ k, k ≠ 30 → M'.1 30 0 k = M.1 30 0 k
theorem frH.rf {M : wS} : frH M M := ⟨fun _ _ _ => rfl, fun _ _ => rfl⟩
theorem frH.tr {M M1 M2 : wS} (h : frH M M1) (h2 : frH M1 M2) : frH M M2 := ⟨fun g i a => (h2.1 g i a).trans (h.1 g i a), fun k a => (h2.2 k a).trans (h.2 k a)⟩
theorem frH.set {M : wS} (x : Int32) : frH M (mset M 30 0 30 x) := by
  refine ⟨fun g i h => ?_, fun j a => ?_⟩
  · funext j
    rw [mset_at, if_neg (fun e => h e.1)]
  · rw [mset_at, if_neg (fun e => by omega)]
theorem frH.lg {M : wS} {x : Int64} : frH M ((M.1, x) : wS) := ⟨fun _ _ _ => rfl, fun _ _ => rfl⟩
theorem frH.n {M M' : wS} (h : frH M M') : frN M M' := ⟨h.1, fun k a _ _ => h.2 k a⟩
theorem bA_in {f : Nat → Int32} {z k : Nat} {A B : Int32} (hA : -1 < A) : (A ≤ bA f z k ∧ bA f z k ≤ B) ↔ (k < z ∧ A ≤ f k ∧ f k ≤ B) := by
  unfold bA
  by_cases h : k < z
  · rw [if_pos h]
    exact ⟨fun e => ⟨h, e⟩, fun e => e.2⟩
  · rw [if_neg h]
    exact ⟨fun e => absurd e.1 (Int32.not_le.mpr hA), fun e => absurd e.1 h⟩
end S49
