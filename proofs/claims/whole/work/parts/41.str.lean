section S41
variable {p : Program} {l : Launch} {e : Env} {R : Room} {s : State} {m : MethodId} {args : Array Value} {below : List Frame} {meth : Method} {c : Code} {nL : Nat} {D : va_G} {cy : Nat → ClassId} {ad : Nat → Nat → Nat} {G : Nat} {A : Nat → Prop} {cells slots d : Nat} {Q : State → Prop} {cc : ByteArray} {own : String} {pc : Nat} {lv : List (Nat × Value)} {st : List Value} {M : wS}
theorem V_zq (C : CX p s m args c cc nL own D cy ad G A R d cells slots) {index : Nat} (hl : Cond.fieldLink own index "jdk/internal/util/Preconditions" "SIOOBE_FORMATTER" "Ljava/util/function/BiFunction;" ∈ lw_good) (hd : decode cc pc = .ok (.getstatic index, 3)) (k : ∀ v : Value, (v = .null ∨ ∃ t, v = .ref t) → V p l e R s m args below meth c nL D cy ad G A cells slots Q (pc + 3) lv (v :: st) M) : V p l e R s m args below meth c nL D cy ad G A cells slots Q pc lv st M := by
  intro H locs ls h1 h2 h3
  rcases C.2.2.2.2.2.1.2.2.2.2.2.2 with hz | ⟨t, hz⟩
  · exact va_gets C.1 C.2.1 hz h2 C.2.2.2.1 (C.2.2.2.2.1 _ hl) (fun _ h => h) hd (k _ (Or.inl rfl) H locs ls h1 h2 h3)
  · exact va_gets C.1 C.2.1 hz h2 C.2.2.2.1 (C.2.2.2.2.1 _ hl) (fun _ h => h) hd (k _ (Or.inr ⟨t, rfl⟩) H locs ls h1 h2 h3)
theorem c_J0_coder (M : wS) {i : Nat} (hi : i < 13) : Ctr l D cy ad G d yJ0_coder_7d493 cJ0_coder_7d493 1 (some .byte) [.ref (ad 61 i)] M (rI fun x M' => M' = M ∧ x = 0) := by
  refine Ctr.of (lv0 := [(0, _)]) (by decide) (Nat.le_of_ble_eq_true rfl) rfl ?_
  intro p e s m args below meth c C hr hlk _
  have C : CX p s m args c cJ0_coder_7d493 1 "java/lang/String" D cy ad G (wA ad G) (Rm d) d 0 0 := C
  refine V_compact (pc := 0) C qf_J0_38 dJ0_coder_7d493_0 ?_
  refine V_if_eq (tgt := 13) (pc := 3) C dJ0_coder_7d493_3 (by decide) (fun h => absurd h (by decide)) (fun _ => ?_)
  refine V_aload_n (pc := 6) C 0 dJ0_coder_7d493_6 rfl rfl ?_
  refine V_kcoder (pc := 7) C hi qf_J0_15 dJ0_coder_7d493_7 ?_
  refine V_goto (tgt := 14) (pc := 10) C dJ0_coder_7d493_10 (by decide) ?_
  refine V_zret (pc := 14) C hr hlk rfl dJ0_coder_7d493_14 ⟨_, rfl, ?_⟩
  exact ⟨rfl, rfl⟩
theorem c_J0_isLatin1 (M : wS) {i : Nat} (hi : i < 13) : Ctr l D cy ad G d yJ0_isLatin1_aae02 cJ0_isLatin1_aae02 1 (some .boolean) [.ref (ad 61 i)] M (rI fun x M' => M' = M ∧ x = bI True) := by
  refine Ctr.of (lv0 := [(0, _)]) (by decide) (Nat.le_of_ble_eq_true rfl) rfl ?_
  intro p e s m args below meth c C hr hlk _
  have C : CX p s m args c cJ0_isLatin1_aae02 1 "java/lang/String" D cy ad G (wA ad G) (Rm d) d 0 0 := C
  refine V_compact (pc := 0) C qf_J0_38 dJ0_isLatin1_aae02_0 ?_
  refine V_if_eq (tgt := 17) (pc := 3) C dJ0_isLatin1_aae02_3 (by decide) (fun h => absurd h (by decide)) (fun _ => ?_)
  refine V_aload_n (pc := 6) C 0 dJ0_isLatin1_aae02_6 rfl rfl ?_
  refine V_kcoder (pc := 7) C hi qf_J0_15 dJ0_isLatin1_aae02_7 ?_
  refine V_if_ne (tgt := 17) (pc := 10) C dJ0_isLatin1_aae02_10 (by decide) (fun h => absurd h (by decide)) (fun _ => ?_)
  refine V_iconst (v := 1) (pc := 13) C dJ0_isLatin1_aae02_13 (by decide) ?_
  refine V_goto (tgt := 18) (pc := 14) C dJ0_isLatin1_aae02_14 (by decide) ?_
  refine V_zret (pc := 18) C hr hlk rfl dJ0_isLatin1_aae02_18 ⟨_, rfl, ?_⟩
  exact ⟨rfl, bI_t trivial⟩
theorem c_J0_length (hd : 1 ≤ d) (M : wS) {i : Nat} (hi : i < 13) : Ctr l D cy ad G d yJ0_length_8abf5 cJ0_length_8abf5 1 (some .int) [.ref (ad 61 i)] M (rI fun x M' => M' = M ∧ x = nI (wTlen.getD i 0)) := by
  have key : ∀ j, j < 13 → nI (wTlen.getD j 0) >>> ((0 : Int32) &&& 31) = nI (wTlen.getD j 0) := by decide +kernel
  refine Ctr.of (lv0 := [(0, _)]) (by decide) (Nat.le_of_ble_eq_true rfl) rfl ?_
  intro p e s m args below meth c C hr hlk _
  have C : CX p s m args c cJ0_length_8abf5 1 "java/lang/String" D cy ad G (wA ad G) (Rm d) d 0 0 := C
  refine V_aload_n (pc := 0) C 0 dJ0_length_8abf5_0 rfl rfl ?_
  refine V_kvalue (pc := 1) C hi qf_J0_9 dJ0_length_8abf5_1 ?_
  refine V_kalen (pc := 4) C hi dJ0_length_8abf5_4 ?_
  refine V_aload_n (pc := 5) C 0 dJ0_length_8abf5_5 rfl rfl ?_
  refine call_J0_335 (pc := 6) C (c_J0_coder (d := d - 1) M hi) (by omega) hi (Nat.le_of_ble_eq_true rfl) dJ0_length_8abf5_6 (fun x_6 M_6 h_6 => ?_)
  obtain ⟨e_6, rfl⟩ := h_6
  have e_6 := e_6.symm
  subst e_6
  refine V_ishr (pc := 9) C dJ0_length_8abf5_9 ?_
  refine V_iret (pc := 10) C hr hlk dJ0_length_8abf5_10 ⟨_, rfl, ?_⟩
  exact ⟨rfl, key i hi⟩
theorem c_J3_checkIndex (M : wS) {i n : Int32} (h0 : 0 ≤ i) (hn : i < n) {v : Value} (hv : v = .null ∨ ∃ t, v = .ref t) : Ctr l D cy ad G d yJ3_checkIndex_8e157 cJ3_checkIndex_8e157 3 (some .int) [.int i, .int n, v] M (rI fun x M' => M' = M ∧ x = i) := by
  rcases hv with rfl | ⟨t, rfl⟩
  ·
    refine Ctr.of (lv0 := [(0, _), (1, _), (2, _)]) (by decide) (Nat.le_of_ble_eq_true rfl) rfl ?_
    intro p e s m args below meth c C hr hlk _
    have C : CX p s m args c cJ3_checkIndex_8e157 3 "jdk/internal/util/Preconditions" D cy ad G (wA ad G) (Rm d) d 0 0 := C
    refine V_iload_n (pc := 0) C 0 dJ3_checkIndex_8e157_0 rfl rfl ?_
    refine V_if_lt (tgt := 9) (pc := 1) C dJ3_checkIndex_8e157_1 (by decide) (fun h_1 => ?_) (fun h_1 => ?_)
    · exact absurd h_1 (Int32.not_lt.mpr h0)
    · refine V_iload_n (pc := 4) C 0 dJ3_checkIndex_8e157_4 rfl rfl ?_
      refine V_iload_n (pc := 5) C 1 dJ3_checkIndex_8e157_5 rfl rfl ?_
      refine V_icmp_lt (tgt := 16) (pc := 6) C dJ3_checkIndex_8e157_6 (by decide) (fun h_6 => ?_) (fun h_6 => ?_)
      · refine V_iload_n (pc := 16) C 0 dJ3_checkIndex_8e157_16 rfl rfl ?_
        refine V_iret (pc := 17) C hr hlk dJ3_checkIndex_8e157_17 ⟨_, rfl, ?_⟩
        exact ⟨rfl, rfl⟩
      · exact absurd hn h_6
  ·
    refine Ctr.of (lv0 := [(0, _), (1, _), (2, _)]) (by decide) (Nat.le_of_ble_eq_true rfl) rfl ?_
    intro p e s m args below meth c C hr hlk _
    have C : CX p s m args c cJ3_checkIndex_8e157 3 "jdk/internal/util/Preconditions" D cy ad G (wA ad G) (Rm d) d 0 0 := C
    refine V_iload_n (pc := 0) C 0 dJ3_checkIndex_8e157_0 rfl rfl ?_
    refine V_if_lt (tgt := 9) (pc := 1) C dJ3_checkIndex_8e157_1 (by decide) (fun h_1 => ?_) (fun h_1 => ?_)
    · exact absurd h_1 (Int32.not_lt.mpr h0)
    · refine V_iload_n (pc := 4) C 0 dJ3_checkIndex_8e157_4 rfl rfl ?_
      refine V_iload_n (pc := 5) C 1 dJ3_checkIndex_8e157_5 rfl rfl ?_
      refine V_icmp_lt (tgt := 16) (pc := 6) C dJ3_checkIndex_8e157_6 (by decide) (fun h_6 => ?_) (fun h_6 => ?_)
      · refine V_iload_n (pc := 16) C 0 dJ3_checkIndex_8e157_16 rfl rfl ?_
        refine V_iret (pc := 17) C hr hlk dJ3_checkIndex_8e157_17 ⟨_, rfl, ?_⟩
        exact ⟨rfl, rfl⟩
      · exact absurd hn h_6
theorem c_J0_checkIndex (hd : 1 ≤ d) (M : wS) {i n : Int32} (h0 : 0 ≤ i) (hn : i < n) : Ctr l D cy ad G d yJ0_checkIndex_df160 cJ0_checkIndex_df160 2 none [.int i, .int n] M (rV fun M' => M' = M) := by
  refine Ctr.of (lv0 := [(0, _), (1, _)]) (by decide) (Nat.le_of_ble_eq_true rfl) rfl ?_
  intro p e s m args below meth c C hr hlk _
  have C : CX p s m args c cJ0_checkIndex_df160 2 "java/lang/String" D cy ad G (wA ad G) (Rm d) d 0 0 := C
  refine V_iload_n (pc := 0) C 0 dJ0_checkIndex_df160_0 rfl rfl ?_
  refine V_iload_n (pc := 1) C 1 dJ0_checkIndex_df160_1 rfl rfl ?_
  refine V_zq (pc := 2) C qf_J0_1053 dJ0_checkIndex_df160_2 (fun v_2 hv_2 => ?_)
  refine call_J0_1059 (pc := 5) C (c_J3_checkIndex (d := d - 1) M h0 hn hv_2) (by omega) (Nat.le_of_ble_eq_true rfl) dJ0_checkIndex_df160_5 (fun x_5 M_5 h_5 => ?_)
  obtain ⟨e_5, rfl⟩ := h_5
  have e_5 := e_5.symm
  subst e_5
  refine V_pop (pc := 8) C dJ0_checkIndex_df160_8 rfl ?_
  refine V_vret (pc := 9) C hr hlk dJ0_checkIndex_df160_9 ⟨rfl, ?_⟩
  rfl
theorem wTlen_le : ∀ i, i < 13 → wTlen.getD i 0 ≤ 60 := by decide
theorem wTby_ch : ∀ i, i < 13 → ∀ j, j < wTlen.getD i 0 → (((wTby.getD i []).getD j 0 &&& 255).toUInt32 % 65536).toInt32 = (wTby.getD i []).getD j 0 ∧ ((wTby.getD i []).getD j 0).toUInt32.toUInt16.toUInt32.toInt32 = (wTby.getD i []).getD j 0 := by decide +kernel
theorem c_J1_charAt (hd : 2 ≤ d) (M : wS) {i : Nat} (hi : i < 13) {j : Nat} (hj : j < wTlen.getD i 0) : Ctr l D cy ad G d yJ1_charAt_3b067 cJ1_charAt_3b067 2 (some .char) [.ref (ad 62 i), .int (nI j)] M (rI fun x M' => M' = M ∧ x = (wTby.getD i []).getD j 0) := by
  have hl := wTlen_le i hi
  have hk := wTby_ch i hi j hj
  refine Ctr.of (lv0 := [(0, _), (1, _)]) (by decide) (Nat.le_of_ble_eq_true rfl) rfl ?_
  intro p e s m args below meth c C hr hlk _
  have C : CX p s m args c cJ1_charAt_3b067 2 "java/lang/StringLatin1" D cy ad G (wA ad G) (Rm d) d 0 0 := C
  refine V_iload_n (pc := 0) C 1 dJ1_charAt_3b067_0 rfl rfl ?_
  refine V_aload_n (pc := 1) C 0 dJ1_charAt_3b067_1 rfl rfl ?_
  refine V_kalen (pc := 2) C hi dJ1_charAt_3b067_2 ?_
  refine call_J1_9 (pc := 3) C (c_J0_checkIndex (d := d - 1) (by omega) M (nI_pos' (by omega)) (nI_lt hj (by omega))) (by omega) (Nat.le_of_ble_eq_true rfl) dJ1_charAt_3b067_3 (fun M_3 h_3 => ?_)
  have e_3 := h_3.symm
  subst e_3
  refine V_aload_n (pc := 6) C 0 dJ1_charAt_3b067_6 rfl rfl ?_
  refine V_iload_n (pc := 7) C 1 dJ1_charAt_3b067_7 rfl rfl ?_
  refine V_kbald (pc := 8) C (j) hi rfl hj (by omega) dJ1_charAt_3b067_8 ?_
  refine V_sipush (v := 255) (pc := 9) C dJ1_charAt_3b067_9 (by decide) ?_
  refine V_iand (pc := 12) C dJ1_charAt_3b067_12 ?_
  refine V_i2c (pc := 13) C dJ1_charAt_3b067_13 ?_
  rw [hk.1]
  refine V_zret (pc := 14) C hr hlk (congrArg Value.int hk.2) dJ1_charAt_3b067_14 ⟨_, rfl, ?_⟩
  exact ⟨rfl, rfl⟩
theorem c_J0_charAt (hd : 3 ≤ d) (M : wS) {i : Nat} (hi : i < 13) {j : Nat} (hj : j < wTlen.getD i 0) : Ctr l D cy ad G d yJ0_charAt_5068e cJ0_charAt_5068e 2 (some .char) [.ref (ad 61 i), .int (nI j)] M (rI fun x M' => M' = M ∧ x = (wTby.getD i []).getD j 0) := by
  have hk := wTby_ch i hi j hj
  refine Ctr.of (lv0 := [(0, _), (1, _)]) (by decide) (Nat.le_of_ble_eq_true rfl) rfl ?_
  intro p e s m args below meth c C hr hlk _
  have C : CX p s m args c cJ0_charAt_5068e 2 "java/lang/String" D cy ad G (wA ad G) (Rm d) d 0 0 := C
  refine V_aload_n (pc := 0) C 0 dJ0_charAt_5068e_0 rfl rfl ?_
  refine call_J0_492 (pc := 1) C (c_J0_isLatin1 (d := d - 1) M hi) (by omega) hi (Nat.le_of_ble_eq_true rfl) dJ0_charAt_5068e_1 (fun x_1 M_1 h_1 => ?_)
  obtain ⟨e_1, rfl⟩ := h_1
  have e_1 := e_1.symm
  subst e_1
  refine V_if_eq (tgt := 16) (pc := 4) C dJ0_charAt_5068e_4 (by decide) (fun h_4 => ?_) (fun h_4 => ?_)
  · have h_4 := bJ_0.mp h_4
    exact absurd trivial h_4
  · have h_4 := bJ_1.mp h_4
    refine V_aload_n (pc := 7) C 0 dJ0_charAt_5068e_7 rfl rfl ?_
    refine V_kvalue (pc := 8) C hi qf_J0_9 dJ0_charAt_5068e_8 ?_
    refine V_iload_n (pc := 11) C 1 dJ0_charAt_5068e_11 rfl rfl ?_
    refine call_J0_495 (pc := 12) C (c_J1_charAt (d := d - 1) (by omega) M hi hj) (by omega) (Nat.le_of_ble_eq_true rfl) dJ0_charAt_5068e_12 (fun x_12 M_12 h_12 => ?_)
    obtain ⟨e_12, rfl⟩ := h_12
    have e_12 := e_12.symm
    subst e_12
    refine V_zret (pc := 15) C hr hlk (congrArg Value.int hk.2) dJ0_charAt_5068e_15 ⟨_, rfl, ?_⟩
    exact ⟨rfl, rfl⟩
end S41
