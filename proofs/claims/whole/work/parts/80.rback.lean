theorem back_i : ∀ n, n < 8 → ∀ b, b < 128 → nI b &&& ~~~ (kMask n) = nI (b / 2 ^ n * 2 ^ n) ∧ (nI b >>> (nI n &&& 31)) <<< (nI n &&& 31) = nI (b / 2 ^ n * 2 ^ n) ∧ b / 2 ^ n * 2 ^ n ≤ b := by decide +kernel
theorem kBec_oth0 (M : wS) (nb nt : Nat) {g a k : Nat} (h1 : ¬ (26 ≤ g ∧ g ≤ 29 ∧ a = 0)) : (kBec M 0 1 nb nt).1 g a k = M.1 g a k := by
  rw [kBec_at]
  repeat rw [if_neg (by omega)]
theorem cpy_r {f g : Nat → Int32} {n k : Nat} (P : Int32 → Prop) (h1 : k < n → P (f k)) (h2 : P (g k)) : P (va_cpy f g 0 0 n k) := by
  rw [cpy0]
  by_cases e : k < n
  · rw [if_pos e]; exact h1 e
  · rw [if_neg e]; exact h2
section S80
variable {l : Launch} {D : va_G} {cy : Nat → ClassId} {ad : Nat → Nat → Nat} {G d : Nat}
theorem RR.kept {M0 M : wS} {nb nt tc z bo r : Nat} (h : RR M0 M nb nt tc z bo r) : ∃ nbk ntk, M0.1 26 1 9 = nI nbk ∧ nbk ≤ 7 ∧ M0.1 26 1 10 = nI ntk ∧ ntk ≤ 7 := by
  obtain ⟨c1, c2, c3, c4, c5, c6, c7, c8, c9, c10⟩ := h
  rcases c9 with c9 | ⟨-, nbk, ntk, bk, rk, k1, k2, -⟩
  · exact ⟨0, 0, c9.2.2.1, by decide, c9.2.2.2, by decide⟩
  · exact ⟨nbk, ntk, k2.1, by have := c1.1.2; omega, k2.2.1, by have := c1.2.1.2; omega⟩
theorem lp_X10_back1 {p : Program} {e : Env} {s : State} {m : MethodId} {args : Array Value} {below : List Frame} {meth : Method} {c : Code} (C : CX p s m args c cX10_back 2 "CostsAgeModel" D cy ad G (wA ad G) (Rm d) d 0 0) (hr : meth.sig.returnType = (some .int)) (hlk : meth.locks = false) (hG : 56 ≤ G) {Ms : wS} {nbk : Nat} (hn : nbk ≤ 7) (hk9 : Ms.1 30 0 49 = nI nbk) (Qf : Int32 → wS → Prop) : ∀ (n k : Nat) (M : wS), k + n = nbk → (∀ g i j, g ≠ 36 → g ≠ 37 → M.1 g i j = Ms.1 g i j) → (∀ j, M.1 36 0 j = (if j < k then Ms.1 49 0 j else Ms.1 36 0 j) ∧ M.1 37 0 j = (if j < k then Ms.1 50 0 j else Ms.1 37 0 j)) → (∀ M', (∀ g i j, g ≠ 36 → g ≠ 37 → M'.1 g i j = Ms.1 g i j) → (∀ j, M'.1 36 0 j = (if j < nbk then Ms.1 49 0 j else Ms.1 36 0 j) ∧ M'.1 37 0 j = (if j < nbk then Ms.1 50 0 j else Ms.1 37 0 j)) → V p l e (Rm d) s m args below meth c 2 D cy ad G (wA ad G) 0 0 (MQ below (wQ D cy ad G (rI Qf)) args s 0 0 (wA ad G)) 53 [(0, .ref (ad 30 0)), (1, .int 0)] [] M') → V p l e (Rm d) s m args below meth c 2 D cy ad G (wA ad G) 0 0 (MQ below (wQ D cy ad G (rI Qf)) args s 0 0 (wA ad G)) 13 [(0, .ref (ad 30 0)), (1, .int (nI k))] [] M := by
  intro n
  induction n with
  | zero =>
    intro k M hk hF hR hQ
    obtain rfl : k = nbk := by omega
    have hm := (hF 30 0 49 (by decide) (by decide)).trans hk9
    refine V_iload_n (pc := 13) C 1 dX10_back_13 rfl rfl ?_
    refine V_aload_n (pc := 14) C 0 dX10_back_14 rfl rfl ?_
    refine get_X10_80 (pc := 15) C (wg hG (by decide) (by decide)) dX10_back_15 ?_
    refine V_icmp_ge (tgt := 51) (pc := 18) C dX10_back_18 (by decide) (fun h_18 => ?_) (fun h_18 => ?_)
    · refine V_iconst (v := 0) (pc := 51) C dX10_back_51 (by decide) ?_
      refine Vs_istore_n (lv' := [(0, _), (1, _)]) (pc := 52) C dX10_back_52 rfl (by decide) rfl rfl ?_
      exact hQ M hF hR
    · rw [hm] at h_18
      exact absurd (nI_le (Nat.le_refl _) (by omega)) h_18
  | succ n ih =>
    intro k M hk hF hR hQ
    have hm := (hF 30 0 49 (by decide) (by decide)).trans hk9
    have a49 := hF 49 0 k (by decide) (by decide)
    have a50 := hF 50 0 k (by decide) (by decide)
    have b50 : ∀ x, (mset M 36 0 k x).1 50 0 k = Ms.1 50 0 k := fun x => by rw [mset_at, if_neg (by omega)]; exact a50
    refine V_iload_n (pc := 13) C 1 dX10_back_13 rfl rfl ?_
    refine V_aload_n (pc := 14) C 0 dX10_back_14 rfl rfl ?_
    refine get_X10_80 (pc := 15) C (wg hG (by decide) (by decide)) dX10_back_15 ?_
    refine V_icmp_ge (tgt := 51) (pc := 18) C dX10_back_18 (by decide) (fun h_18 => ?_) (fun h_18 => ?_)
    · rw [hm] at h_18
      exact absurd h_18 (nI_ge (by omega) (by omega))
    · refine V_aload_n (pc := 21) C 0 dX10_back_21 rfl rfl ?_
      refine get_X10_29 (pc := 22) C (wg hG (by decide) (by decide)) dX10_back_22 ?_
      refine V_iload_n (pc := 25) C 1 dX10_back_25 rfl rfl ?_
      refine V_aload_n (pc := 26) C 0 dX10_back_26 rfl rfl ?_
      refine get_X10_71 (pc := 27) C (wg hG (by decide) (by decide)) dX10_back_27 ?_
      refine V_iload_n (pc := 30) C 1 dX10_back_30 rfl rfl ?_
      refine V_iald (pc := 31) C (k) rfl (by omega) (Nat.le_of_ble_eq_true rfl) (wg hG (by decide) (by decide)) wF_49 dX10_back_31 ?_
      refine V_iast (pc := 32) C (k) rfl (by omega) (Nat.le_of_ble_eq_true rfl) (wg hG (by decide) (by decide)) (fun _ => wF_36) dX10_back_32 ?_
      rw [a49]
      refine V_aload_n (pc := 33) C 0 dX10_back_33 rfl rfl ?_
      refine get_X10_32 (pc := 34) C (wg hG (by decide) (by decide)) dX10_back_34 ?_
      refine V_iload_n (pc := 37) C 1 dX10_back_37 rfl rfl ?_
      refine V_aload_n (pc := 38) C 0 dX10_back_38 rfl rfl ?_
      refine get_X10_74 (pc := 39) C (wg hG (by decide) (by decide)) dX10_back_39 ?_
      refine V_iload_n (pc := 42) C 1 dX10_back_42 rfl rfl ?_
      refine V_iald (pc := 43) C (k) rfl (by omega) (Nat.le_of_ble_eq_true rfl) (wg hG (by decide) (by decide)) wF_50 dX10_back_43 ?_
      refine V_iast (pc := 44) C (k) rfl (by omega) (Nat.le_of_ble_eq_true rfl) (wg hG (by decide) (by decide)) (fun _ => wF_37) dX10_back_44 ?_
      rw [b50]
      refine Vs_iinc (v := nI (k + 1)) (lv' := [(0, _), (1, _)]) (pc := 45) C 1 dX10_back_45 rfl (by decide) rfl (nI_i1 (k)) rfl ?_
      refine V_goto (tgt := 13) (pc := 48) C dX10_back_48 (by decide) ?_
      refine ih (k + 1) _ (by omega) (fun g i j x y => ?_) (fun j => ?_) hQ
      · rw [mset_at, if_neg (by omega), mset_at, if_neg (by omega)]
        exact hF g i j x y
      · by_cases e : j = k
        · subst e
          simp [mset_at]
        · have := hR j
          simp [mset_at, e]
          by_cases e2 : j < k
          · rw [if_pos e2, if_pos e2] at this
            rw [if_pos (show j < k + 1 by omega), if_pos (show j < k + 1 by omega)]
            exact this
          · rw [if_neg e2, if_neg e2] at this
            rw [if_neg (show ¬ j < k + 1 by omega), if_neg (show ¬ j < k + 1 by omega)]
            exact this
theorem lp_X10_back2 {p : Program} {e : Env} {s : State} {m : MethodId} {args : Array Value} {below : List Frame} {meth : Method} {c : Code} (C : CX p s m args c cX10_back 2 "CostsAgeModel" D cy ad G (wA ad G) (Rm d) d 0 0) (hr : meth.sig.returnType = (some .int)) (hlk : meth.locks = false) (hG : 56 ≤ G) {Ms : wS} {ntk : Nat} (hn : ntk ≤ 7) (hk9 : Ms.1 30 0 50 = nI ntk) (Qf : Int32 → wS → Prop) : ∀ (n k : Nat) (M : wS), k + n = ntk → (∀ g i j, g ≠ 41 → M.1 g i j = Ms.1 g i j) → (∀ j, M.1 41 0 j = (if j < k then Ms.1 51 0 j else Ms.1 41 0 j)) → (∀ M', (∀ g i j, g ≠ 41 → M'.1 g i j = Ms.1 g i j) → (∀ j, M'.1 41 0 j = (if j < ntk then Ms.1 51 0 j else Ms.1 41 0 j)) → V p l e (Rm d) s m args below meth c 2 D cy ad G (wA ad G) 0 0 (MQ below (wQ D cy ad G (rI Qf)) args s 0 0 (wA ad G)) 79 [(0, .ref (ad 30 0))] [] M') → V p l e (Rm d) s m args below meth c 2 D cy ad G (wA ad G) 0 0 (MQ below (wQ D cy ad G (rI Qf)) args s 0 0 (wA ad G)) 53 [(0, .ref (ad 30 0)), (1, .int (nI k))] [] M := by
  intro n
  induction n with
  | zero =>
    intro k M hk hF hR hQ
    obtain rfl : k = ntk := by omega
    have hm := (hF 30 0 50 (by decide)).trans hk9
    refine V_iload_n (pc := 53) C 1 dX10_back_53 rfl rfl ?_
    refine V_aload_n (pc := 54) C 0 dX10_back_54 rfl rfl ?_
    refine get_X10_330 (pc := 55) C (wg hG (by decide) (by decide)) dX10_back_55 ?_
    refine V_icmp_ge (tgt := 79) (pc := 58) C dX10_back_58 (by decide) (fun h_58 => ?_) (fun h_58 => ?_)
    · refine V_loc (lv' := [(0, _)]) [0] rfl ?_
      exact hQ M hF hR
    · rw [hm] at h_58
      exact absurd (nI_le (Nat.le_refl _) (by omega)) h_58
  | succ n ih =>
    intro k M hk hF hR hQ
    have hm := (hF 30 0 50 (by decide)).trans hk9
    have a51 := hF 51 0 k (by decide)
    refine V_iload_n (pc := 53) C 1 dX10_back_53 rfl rfl ?_
    refine V_aload_n (pc := 54) C 0 dX10_back_54 rfl rfl ?_
    refine get_X10_330 (pc := 55) C (wg hG (by decide) (by decide)) dX10_back_55 ?_
    refine V_icmp_ge (tgt := 79) (pc := 58) C dX10_back_58 (by decide) (fun h_58 => ?_) (fun h_58 => ?_)
    · rw [hm] at h_58
      exact absurd h_58 (nI_ge (by omega) (by omega))
    · refine V_aload_n (pc := 61) C 0 dX10_back_61 rfl rfl ?_
      refine get_X10_44 (pc := 62) C (wg hG (by decide) (by decide)) dX10_back_62 ?_
      refine V_iload_n (pc := 65) C 1 dX10_back_65 rfl rfl ?_
      refine V_aload_n (pc := 66) C 0 dX10_back_66 rfl rfl ?_
      refine get_X10_77 (pc := 67) C (wg hG (by decide) (by decide)) dX10_back_67 ?_
      refine V_iload_n (pc := 70) C 1 dX10_back_70 rfl rfl ?_
      refine V_iald (pc := 71) C (k) rfl (by omega) (Nat.le_of_ble_eq_true rfl) (wg hG (by decide) (by decide)) wF_51 dX10_back_71 ?_
      refine V_iast (pc := 72) C (k) rfl (by omega) (Nat.le_of_ble_eq_true rfl) (wg hG (by decide) (by decide)) (fun _ => wF_41) dX10_back_72 ?_
      rw [a51]
      refine Vs_iinc (v := nI (k + 1)) (lv' := [(0, _), (1, _)]) (pc := 73) C 1 dX10_back_73 rfl (by decide) rfl (nI_i1 (k)) rfl ?_
      refine V_goto (tgt := 53) (pc := 76) C dX10_back_76 (by decide) ?_
      refine ih (k + 1) _ (by omega) (fun g i j x => ?_) (fun j => ?_) hQ
      · rw [mset_at, if_neg (by omega)]
        exact hF g i j x
      · by_cases e : j = k
        · subst e
          simp [mset_at]
        · have := hR j
          simp [mset_at, e]
          by_cases e2 : j < k
          · rw [if_pos e2] at this
            rw [if_pos (show j < k + 1 by omega)]
            exact this
          · rw [if_neg e2] at this
            rw [if_neg (show ¬ j < k + 1 by omega)]
            exact this
theorem o_back (hG : 56 ≤ G) (hd : 1 ≤ d) {M0 M : wS} {nb nt tc z bo r nbk ntk : Nat} (h : RR M0 M nb nt tc z bo r) (hnb : M0.1 26 1 9 = nI nbk) (hn7 : nbk ≤ 7) (hnt : M0.1 26 1 10 = nI ntk) (ht7 : ntk ≤ 7) : Ctr l D cy ad G d yX10_back cX10_back 2 (some .int) [.ref (ad 30 0)] M (rI fun x M' => RO (kBack M0 nbk ntk) M x M') := by
  obtain ⟨c1, c2, c3, c4, c5, c6, c7, c8, c9, c10⟩ := id h
  rcases c9 with c9 | ⟨k0, nbk', ntk', bk, rk, k1, k2, k3, k4, k5, k6⟩
  · have hm := c9.2.1
    refine Ctr.of (lv0 := [(0, _)]) (by decide) (Nat.le_of_ble_eq_true rfl) rfl ?_
    intro p e s m args below meth c C hr hlk _
    have C : CX p s m args c cX10_back 2 "CostsAgeModel" D cy ad G (wA ad G) (Rm d) d 0 0 := C
    refine V_aload_n (pc := 0) C 0 dX10_back_0 rfl rfl ?_
    refine get_X10_80 (pc := 1) C (wg hG (by decide) (by decide)) dX10_back_1 ?_
    refine V_iconst (v := -1) (pc := 4) C dX10_back_4 (by decide) ?_
    refine V_icmp_ne (tgt := 11) (pc := 5) C dX10_back_5 (by decide) (fun h_5 => ?_) (fun h_5 => ?_)
    · exact absurd hm h_5
    · refine V_bipush (v := -3) (pc := 8) C dX10_back_8 (by decide) ?_
      refine V_iret (pc := 10) C hr hlk dX10_back_10 ⟨_, rfl, ?_⟩
      rw [kBack, if_pos c9.1]
      exact ⟨rfl, cK.rf, h.keep⟩
  · have hb8 := c1.1.2
    have ht8 := c1.2.1.2
    obtain rfl : nbk = nbk' := (nI_eq (by omega) (by omega)).mp (hnb.symm.trans k2.1)
    obtain rfl : ntk = ntk' := (nI_eq (by omega) (by omega)).mp (hnt.symm.trans k2.2.1)
    have hm := k4.1
    have hne : ¬ nI nbk = (-1 : Int32) := fun e => absurd (nI_pos' (n := nbk) (by omega)) (by rw [e]; decide)
    rw [kBack, if_neg k0]
    refine Ctr.of (lv0 := [(0, _)]) (by decide) (Nat.le_of_ble_eq_true rfl) rfl ?_
    intro p e s m args below meth c C hr hlk _
    have C : CX p s m args c cX10_back 2 "CostsAgeModel" D cy ad G (wA ad G) (Rm d) d 0 0 := C
    refine V_aload_n (pc := 0) C 0 dX10_back_0 rfl rfl ?_
    refine get_X10_80 (pc := 1) C (wg hG (by decide) (by decide)) dX10_back_1 ?_
    refine V_iconst (v := -1) (pc := 4) C dX10_back_4 (by decide) ?_
    refine V_icmp_ne (tgt := 11) (pc := 5) C dX10_back_5 (by decide) (fun h_5 => ?_) (fun h_5 => ?_)
    · refine V_iconst (v := 0) (pc := 11) C dX10_back_11 (by decide) ?_
      refine Vs_istore_n (lv' := [(0, _), (1, _)]) (pc := 12) C dX10_back_12 rfl (by decide) rfl rfl ?_
      refine lp_X10_back1 C hr hlk hG (Ms := M) hn7 k4.1 _ nbk 0 M (by omega) (fun _ _ _ _ _ => rfl) (fun j => by rw [if_neg (by omega), if_neg (by omega)]; exact ⟨rfl, rfl⟩) (fun M1 g1 g2 => ?_)
      refine lp_X10_back2 C hr hlk hG (Ms := M1) ht7 ((g1 30 0 50 (by decide) (by decide)).trans k4.2.1) _ ntk 0 M1 (by omega) (fun _ _ _ _ => rfl) (fun j => by rw [if_neg (by omega)]) (fun M2 g3 g4 => ?_)
      have f : ∀ g i j, ¬ (g = 36 ∨ g = 37 ∨ g = 41) → M2.1 g i j = M.1 g i j := fun g i j e => (g3 g i j (by omega)).trans (g1 g i j (by omega) (by omega))
      have hbi := back_i ntk (by omega) bo h.uO.1
      have f17 := ((f 30 0 17 (by omega)).trans c4.2.1.1).trans c2.1.1
      have f50 := (f 30 0 50 (by omega)).trans k4.2.1
      have f51 := (f 30 0 51 (by omega)).trans k4.2.2.1
      have f52 := (f 30 0 52 (by omega)).trans k4.2.2.2.1
      have f53 := (f 30 0 53 (by omega)).trans k4.2.2.2.2.1
      have f54 := (f 30 0 54 (by omega)).trans k4.2.2.2.2.2.1
      have f55 := (f 30 0 55 (by omega)).trans k4.2.2.2.2.2.2.1
      have f56 := (f 30 0 56 (by omega)).trans k4.2.2.2.2.2.2.2
      have hbk : bk < 128 := by have := pow8 ntk (by omega); have := k1.2.2.2; omega
      have hbb : bo / 2 ^ ntk * 2 ^ ntk < 128 := by have := h.uO.1; omega
      have hbo2 : bo / 2 ^ ntk * 2 ^ ntk ||| bk < 2 ^ nt := Nat.or_lt_two_pow (by have := c2.1.2; omega) (Nat.lt_of_lt_of_le k1.2.2.2 (Nat.pow_le_pow_right (by decide) k1.2.1))
      have h3 : (kBec M0 0 1 nbk ntk).1 26 0 3 = nI (bo / 2 ^ ntk * 2 ^ ntk ||| bk) := by
        rw [kBec_at]
        simp
        rw [c2.1.1, k2.2.2.1, hbi.1, or_i _ hbb _ hbk]
      have k0' : ∀ g i k, ¬ (26 ≤ g ∧ g ≤ 29 ∧ i = 0) → (kBec M0 0 1 nbk ntk).1 g i k = M0.1 g i k := fun g i k e => kBec_oth0 M0 nbk ntk e
      have v4 : (kBec M0 0 1 nbk ntk).1 26 0 4 = M0.1 26 1 4 := by rw [kBec_at]; simp
      have v5 : (kBec M0 0 1 nbk ntk).1 26 0 5 = M0.1 26 1 5 := by rw [kBec_at]; simp
      have v6 : (kBec M0 0 1 nbk ntk).1 26 0 6 = M0.1 26 1 6 := by rw [kBec_at]; simp
      have v7 : (kBec M0 0 1 nbk ntk).1 26 0 7 = M0.1 26 1 7 := by rw [kBec_at]; simp
      have v8 : (kBec M0 0 1 nbk ntk).1 26 0 8 = M0.1 26 1 8 := by rw [kBec_at]; simp
      have v27 : ∀ k, (kBec M0 0 1 nbk ntk).1 27 0 k = if k < nbk then M0.1 27 1 k else M0.1 27 0 k := fun k => by rw [kBec_at]; simp [cpy0]
      have v28 : ∀ k, (kBec M0 0 1 nbk ntk).1 28 0 k = if k < nbk then M0.1 28 1 k else M0.1 28 0 k := fun k => by rw [kBec_at]; simp [cpy0]
      have v29 : ∀ k, (kBec M0 0 1 nbk ntk).1 29 0 k = if k < ntk then M0.1 29 1 k else M0.1 29 0 k := fun k => by rw [kBec_at]; simp [cpy0]
      refine V_aload_n (pc := 79) C 0 dX10_back_79 rfl rfl ?_
      refine V_aload_n (pc := 80) C 0 dX10_back_80 rfl rfl ?_
      refine get_X10_113 (pc := 81) C (wg hG (by decide) (by decide)) dX10_back_81 ?_
      refine V_aload_n (pc := 84) C 0 dX10_back_84 rfl rfl ?_
      refine get_X10_330 (pc := 85) C (wg hG (by decide) (by decide)) dX10_back_85 ?_
      refine V_ishr (pc := 88) C dX10_back_88 ?_
      refine V_aload_n (pc := 89) C 0 dX10_back_89 rfl rfl ?_
      refine get_X10_330 (pc := 90) C (wg hG (by decide) (by decide)) dX10_back_90 ?_
      refine V_ishl (pc := 93) C dX10_back_93 ?_
      refine V_aload_n (pc := 94) C 0 dX10_back_94 rfl rfl ?_
      refine get_X10_333 (pc := 95) C (wg hG (by decide) (by decide)) dX10_back_95 ?_
      refine V_ior (pc := 98) C dX10_back_98 ?_
      refine put_X10_113 (pc := 99) C (wg hG (by decide) (by decide)) dX10_back_99 ?_
      refine V_aload_n (pc := 102) C 0 dX10_back_102 rfl rfl ?_
      refine V_aload_n (pc := 103) C 0 dX10_back_103 rfl rfl ?_
      refine get_X10_336 (pc := 104) C (wg hG (by decide) (by decide)) dX10_back_104 ?_
      refine put_X10_141 (pc := 107) C (wg hG (by decide) (by decide)) dX10_back_107 ?_
      refine V_aload_n (pc := 110) C 0 dX10_back_110 rfl rfl ?_
      refine V_aload_n (pc := 111) C 0 dX10_back_111 rfl rfl ?_
      refine get_X10_339 (pc := 112) C (wg hG (by decide) (by decide)) dX10_back_112 ?_
      refine put_X10_315 (pc := 115) C (wg hG (by decide) (by decide)) dX10_back_115 ?_
      refine V_aload_n (pc := 118) C 0 dX10_back_118 rfl rfl ?_
      refine V_aload_n (pc := 119) C 0 dX10_back_119 rfl rfl ?_
      refine get_X10_342 (pc := 120) C (wg hG (by decide) (by decide)) dX10_back_120 ?_
      refine put_X10_312 (pc := 123) C (wg hG (by decide) (by decide)) dX10_back_123 ?_
      refine V_aload_n (pc := 126) C 0 dX10_back_126 rfl rfl ?_
      refine V_aload_n (pc := 127) C 0 dX10_back_127 rfl rfl ?_
      refine get_X10_345 (pc := 128) C (wg hG (by decide) (by decide)) dX10_back_128 ?_
      refine put_X10_47 (pc := 131) C (wg hG (by decide) (by decide)) dX10_back_131 ?_
      refine V_aload_n (pc := 134) C 0 dX10_back_134 rfl rfl ?_
      refine V_aload_n (pc := 135) C 0 dX10_back_135 rfl rfl ?_
      refine get_X10_348 (pc := 136) C (wg hG (by decide) (by decide)) dX10_back_136 ?_
      refine put_X10_270 (pc := 139) C (wg hG (by decide) (by decide)) dX10_back_139 ?_
      refine V_aload_n (pc := 142) C 0 dX10_back_142 rfl rfl ?_
      refine get_X10_141 (pc := 143) C (wg hG (by decide) (by decide)) dX10_back_143 ?_
      refine V_iret (pc := 146) C hr hlk dX10_back_146 ⟨_, rfl, ?_⟩
      refine ⟨?_, fun g i e => ?_, nb, nt, tc, z, bo / 2 ^ ntk * 2 ^ ntk ||| bk, rk, ?_⟩
      · simp [mset_at]; exact f52
      · funext k
        repeat rw [mset_at, if_neg (by omega)]
        exact f g i k (by omega)
      · have c1' : pC M0 M nb nt tc rk := ⟨c1.1, c1.2.1, ⟨c1.2.2.1.1, k1.2.2.1, c1.2.2.1.2.2⟩, c1.2.2.2⟩
        refine ⟨c1'.fr (fun g i k e => k0' g i k (by omega)) ?_, ⟨⟨h3, hbo2⟩, ?_, ?_, ?_⟩, ?_, ?_, ?_, c6.fr (fun g i k e => k0' g i k (by omega)) ?_, c7.fr (fun g i k e => k0' g i k (by omega)) ?_, c8.fr (fun g i k e => k0' g i k (by omega)) ?_, h.2.2.2.2.2.2.2.2.1.fr (Nat.le_refl _) (Nat.le_refl _) (Nat.le_refl _) (fun g i k e => k0' g i k (by omega)) ?_, c10.fr (fun g i k e => k0' g i k (by omega))⟩
        · intro g i k e
          repeat rw [mset_at, if_neg (by omega)]
          exact f g i k (by omega)
        · rw [v4]; exact k3.1
        · rw [v5]; exact k3.2
        · rw [v8]; exact k2.2.2.2
        · intro k hk
          have h3' := c3 k hk
          rw [k0' 5 k 0 (by omega), k0' 5 k 1 (by omega), k0' 5 k 2 (by omega), v27, v28]
          refine ⟨h3'.1, h3'.2.1, h3'.2.2.1, ?_, ?_⟩
          · by_cases e : k < nbk
            · rw [if_pos e]; exact (k5 k e).2.1
            · rw [if_neg e]; exact h3'.2.2.2.1
          · by_cases e : k < nbk
            · rw [if_pos e]; exact (k5 k e).2.2
            · rw [if_neg e]; exact h3'.2.2.2.2
        · unfold rA
          rw [h3, v4, v7, v8]
          refine ⟨⟨?_, ?_⟩, ⟨?_, ?_, ?_, ?_⟩, fun k hk => ?_⟩
          · simp [mset_at]; exact (f 30 0 12 (by omega)).trans c4.1.1
          · simp [mset_at]; exact (f 30 0 16 (by omega)).trans c4.1.2
          · simp [mset_at]
            rw [f17, f50, f51, hbi.2.1, or_i _ hbb _ hbk]
          · simp [mset_at]; exact f52
          · simp [mset_at]; exact f55
          · simp [mset_at]; exact f56
          · have h4 := c4.2.2 k hk
            have q36 : M2.1 36 0 k = (kBec M0 0 1 nbk ntk).1 27 0 k := by
              rw [g3 36 0 k (by omega), (g2 k).1, v27]
              by_cases e : k < nbk
              · rw [if_pos e, if_pos e]; exact (k5 k e).1.1
              · rw [if_neg e, if_neg e]; exact h4.1.2.2.1
            have q37 : M2.1 37 0 k = (kBec M0 0 1 nbk ntk).1 28 0 k := by
              rw [g3 37 0 k (by omega), (g2 k).2, v28]
              by_cases e : k < nbk
              · rw [if_pos e, if_pos e]; exact (k5 k e).1.2
              · rw [if_neg e, if_neg e]; exact h4.1.2.2.2.1
            have q41 : M2.1 41 0 k = (kBec M0 0 1 nbk ntk).1 29 0 k := by
              rw [g4 k, v29]
              by_cases e : k < ntk
              · rw [if_pos e, if_pos e, g1 51 0 k (by omega) (by omega)]; exact k6 k e
              · rw [if_neg e, if_neg e, g1 41 0 k (by omega) (by omega)]; exact h4.2.2.2
            refine ⟨⟨?_, ?_, ?_, ?_, ?_⟩, ?_, ?_, ?_⟩
            · rw [mset_at, if_neg (by omega), mset_at, if_neg (by omega), mset_at, if_neg (by omega), mset_at, if_neg (by omega), mset_at, if_neg (by omega), mset_at, if_neg (by omega)]
              exact ((f 34 0 k (by omega)).trans h4.1.1).trans (k0' 5 k 0 (by omega)).symm
            · rw [mset_at, if_neg (by omega), mset_at, if_neg (by omega), mset_at, if_neg (by omega), mset_at, if_neg (by omega), mset_at, if_neg (by omega), mset_at, if_neg (by omega)]
              exact ((f 35 0 k (by omega)).trans h4.1.2.1).trans (k0' 5 k 1 (by omega)).symm
            · rw [mset_at, if_neg (by omega), mset_at, if_neg (by omega), mset_at, if_neg (by omega), mset_at, if_neg (by omega), mset_at, if_neg (by omega), mset_at, if_neg (by omega)]
              exact q36
            · rw [mset_at, if_neg (by omega), mset_at, if_neg (by omega), mset_at, if_neg (by omega), mset_at, if_neg (by omega), mset_at, if_neg (by omega), mset_at, if_neg (by omega)]
              exact q37
            · rw [mset_at, if_neg (by omega), mset_at, if_neg (by omega), mset_at, if_neg (by omega), mset_at, if_neg (by omega), mset_at, if_neg (by omega), mset_at, if_neg (by omega)]
              exact ((f 38 0 k (by omega)).trans h4.1.2.2.2.2).trans (k0' 5 k 2 (by omega)).symm
            · rw [mset_at, if_neg (by omega), mset_at, if_neg (by omega), mset_at, if_neg (by omega), mset_at, if_neg (by omega), mset_at, if_neg (by omega), mset_at, if_neg (by omega)]
              exact ((f 39 0 k (by omega)).trans h4.2.1).trans (k0' 6 k 0 (by omega)).symm
            · rw [mset_at, if_neg (by omega), mset_at, if_neg (by omega), mset_at, if_neg (by omega), mset_at, if_neg (by omega), mset_at, if_neg (by omega), mset_at, if_neg (by omega)]
              exact ((f 40 0 k (by omega)).trans h4.2.2.1).trans (k0' 6 k 1 (by omega)).symm
            · rw [mset_at, if_neg (by omega), mset_at, if_neg (by omega), mset_at, if_neg (by omega), mset_at, if_neg (by omega), mset_at, if_neg (by omega), mset_at, if_neg (by omega)]
              exact q41
        · unfold pY
          rw [v5, v6]
          simp [mset_at]
          exact ⟨f53, f54⟩
        · intro g i k e
          repeat rw [mset_at, if_neg (by omega)]
          exact f g i k (by omega)
        · intro g i k e
          repeat rw [mset_at, if_neg (by omega)]
          exact f g i k (by omega)
        · intro g i k e
          repeat rw [mset_at, if_neg (by omega)]
          exact f g i k (by omega)
        · intro g i k e
          repeat rw [mset_at, if_neg (by omega)]
          exact f g i k (by omega)
    · exact absurd (hm.symm.trans h_5) hne
end S80
