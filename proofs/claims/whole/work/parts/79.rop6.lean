section S79
variable {l : Launch} {D : va_G} {cy : Nat → ClassId} {ad : Nat → Nat → Nat} {G d : Nat}
theorem kBec_at (M : wS) (i j nb nt : Nat) (g a k : Nat) : (kBec M i j nb nt).1 g a k = if g = 26 ∧ a = i ∧ k = 8 then M.1 26 j 8 else if g = 26 ∧ a = i ∧ k = 7 then M.1 26 j 7 else if g = 26 ∧ a = i ∧ k = 6 then M.1 26 j 6 else if g = 26 ∧ a = i ∧ k = 5 then M.1 26 j 5 else if g = 26 ∧ a = i ∧ k = 4 then M.1 26 j 4 else if g = 26 ∧ a = i ∧ k = 3 then (M.1 26 i 3 &&& (kMask nt ^^^ -1) ||| M.1 26 j 3 &&& kMask nt) else if g = 29 ∧ a = i then va_cpy (M.1 29 j) (M.1 29 i) 0 0 nt k else if g = 28 ∧ a = i then va_cpy (M.1 28 j) (M.1 28 i) 0 0 nb k else if g = 27 ∧ a = i then va_cpy (M.1 27 j) (M.1 27 i) 0 0 nb k else M.1 g a k := by
  unfold kBec
  simp only [mset_at, mrow_at]
theorem cpy0 (f g : Nat → Int32) (n k : Nat) : va_cpy f g 0 0 n k = if k < n then f k else g k := by
  unfold va_cpy
  by_cases h : k < n
  · rw [if_pos ⟨Nat.zero_le _, by omega⟩, if_pos h, Nat.zero_add, Nat.sub_zero]
  · rw [if_neg (fun e => by omega), if_neg h]
theorem kImage_oth (M : wS) (nb nt : Nat) {g a k : Nat} (h1 : ¬ (26 ≤ g ∧ g ≤ 29 ∧ a = 1)) (h2 : ¬ (g = 0 ∧ a = 0 ∧ k = 10)) : (kImage M nb nt).1 g a k = M.1 g a k := by
  unfold kImage
  rw [mset_at, if_neg h2, mset_at, if_neg (by omega), mset_at, if_neg (by omega), kBec_at]
  repeat rw [if_neg (by omega)]
theorem mask_and (a b m : Int32) : ((a &&& (m ^^^ -1)) ||| (b &&& m)) &&& m = b &&& m := by
  apply Int32.toBitVec_inj.mp
  simp only [Int32.toBitVec_and, Int32.toBitVec_or, Int32.toBitVec_xor]
  rw [show (-1 : Int32).toBitVec = BitVec.allOnes 32 from rfl]
  apply BitVec.eq_of_getElem_eq
  intro i hi
  simp only [BitVec.getElem_and, BitVec.getElem_or, BitVec.getElem_xor, BitVec.getElem_allOnes]
  cases a.toBitVec[i] <;> cases b.toBitVec[i] <;> cases m.toBitVec[i] <;> rfl
theorem mask_and' (a b m : Int32) : ((a &&& ~~~m) ||| (b &&& m)) &&& m = b &&& m := by
  have : ~~~m = m ^^^ -1 := by
    apply Int32.toBitVec_inj.mp
    rw [Int32.toBitVec_not, Int32.toBitVec_xor]
    rw [show (-1 : Int32).toBitVec = BitVec.allOnes 32 from rfl]
    exact BitVec.xor_allOnes.symm
  rw [this, mask_and]
theorem mask_id : ∀ n, n < 8 → ∀ b, b < 128 → b < 2 ^ n → nI b &&& kMask n = nI b := by decide +kernel
theorem lp_X10_image {p : Program} {e : Env} {s : State} {m : MethodId} {args : Array Value} {below : List Frame} {meth : Method} {c : Code} (C : CX p s m args c cX10_image 2 "CostsAgeModel" D cy ad G (wA ad G) (Rm d) d 0 0) (hr : meth.sig.returnType = (some .int)) (hlk : meth.locks = false) (hG : 56 ≤ G) {Ms : wS} (Qf : Int32 → wS → Prop) : ∀ (n k : Nat) (M : wS), k + n = 7 → (∀ g i j, g ≠ 49 → g ≠ 50 → g ≠ 51 → M.1 g i j = Ms.1 g i j) → (∀ j, j < k → M.1 49 0 j = Ms.1 36 0 j ∧ M.1 50 0 j = Ms.1 37 0 j ∧ M.1 51 0 j = Ms.1 41 0 j) → (∀ M', (∀ g i j, g ≠ 49 → g ≠ 50 → g ≠ 51 → M'.1 g i j = Ms.1 g i j) → (∀ j, j < 7 → M'.1 49 0 j = Ms.1 36 0 j ∧ M'.1 50 0 j = Ms.1 37 0 j ∧ M'.1 51 0 j = Ms.1 41 0 j) → V p l e (Rm d) s m args below meth c 2 D cy ad G (wA ad G) 0 0 (MQ below (wQ D cy ad G (rI Qf)) args s 0 0 (wA ad G)) 50 [(0, .ref (ad 30 0))] [] M') → V p l e (Rm d) s m args below meth c 2 D cy ad G (wA ad G) 0 0 (MQ below (wQ D cy ad G (rI Qf)) args s 0 0 (wA ad G)) 2 [(0, .ref (ad 30 0)), (1, .int (nI k))] [] M := by
  intro n
  induction n with
  | zero =>
    intro k M hk hF hR hQ
    obtain rfl : k = 7 := by omega
    refine V_iload_n (pc := 2) C 1 dX10_image_2 rfl rfl ?_
    refine V_bipush (v := 7) (pc := 3) C dX10_image_3 (by decide) ?_
    refine V_icmp_ge (tgt := 50) (pc := 5) C dX10_image_5 (by decide) (fun h_5 => ?_) (fun h_5 => ?_)
    · refine V_loc (lv' := [(0, _)]) [0] rfl ?_
      exact hQ M hF hR
    · exact absurd (nI_le (a := 7) (b := 7) (Nat.le_refl _) (by decide)) h_5
  | succ n ih =>
    intro k M hk hF hR hQ
    have a36 := hF 36 0 k (by decide) (by decide) (by decide)
    have a37 := hF 37 0 k (by decide) (by decide) (by decide)
    have a41 := hF 41 0 k (by decide) (by decide) (by decide)
    have b37 : ∀ x, (mset M 49 0 k x).1 37 0 k = Ms.1 37 0 k := fun x => by rw [mset_at, if_neg (by omega)]; exact a37
    have b41 : ∀ x y, (mset (mset M 49 0 k x) 50 0 k y).1 41 0 k = Ms.1 41 0 k := fun x y => by rw [mset_at, if_neg (by omega), mset_at, if_neg (by omega)]; exact a41
    refine V_iload_n (pc := 2) C 1 dX10_image_2 rfl rfl ?_
    refine V_bipush (v := 7) (pc := 3) C dX10_image_3 (by decide) ?_
    refine V_icmp_ge (tgt := 50) (pc := 5) C dX10_image_5 (by decide) (fun h_5 => ?_) (fun h_5 => ?_)
    · exact absurd h_5 (nI_ge (b := 7) (by omega) (by decide))
    · refine V_aload_n (pc := 8) C 0 dX10_image_8 rfl rfl ?_
      refine get_X10_71 (pc := 9) C (wg hG (by decide) (by decide)) dX10_image_9 ?_
      refine V_iload_n (pc := 12) C 1 dX10_image_12 rfl rfl ?_
      refine V_aload_n (pc := 13) C 0 dX10_image_13 rfl rfl ?_
      refine get_X10_29 (pc := 14) C (wg hG (by decide) (by decide)) dX10_image_14 ?_
      refine V_iload_n (pc := 17) C 1 dX10_image_17 rfl rfl ?_
      refine V_iald (pc := 18) C (k) rfl (by omega) (Nat.le_of_ble_eq_true rfl) (wg hG (by decide) (by decide)) wF_36 dX10_image_18 ?_
      refine V_iast (pc := 19) C (k) rfl (by omega) (Nat.le_of_ble_eq_true rfl) (wg hG (by decide) (by decide)) (fun _ => wF_49) dX10_image_19 ?_
      rw [a36]
      refine V_aload_n (pc := 20) C 0 dX10_image_20 rfl rfl ?_
      refine get_X10_74 (pc := 21) C (wg hG (by decide) (by decide)) dX10_image_21 ?_
      refine V_iload_n (pc := 24) C 1 dX10_image_24 rfl rfl ?_
      refine V_aload_n (pc := 25) C 0 dX10_image_25 rfl rfl ?_
      refine get_X10_32 (pc := 26) C (wg hG (by decide) (by decide)) dX10_image_26 ?_
      refine V_iload_n (pc := 29) C 1 dX10_image_29 rfl rfl ?_
      refine V_iald (pc := 30) C (k) rfl (by omega) (Nat.le_of_ble_eq_true rfl) (wg hG (by decide) (by decide)) wF_37 dX10_image_30 ?_
      refine V_iast (pc := 31) C (k) rfl (by omega) (Nat.le_of_ble_eq_true rfl) (wg hG (by decide) (by decide)) (fun _ => wF_50) dX10_image_31 ?_
      rw [b37]
      refine V_aload_n (pc := 32) C 0 dX10_image_32 rfl rfl ?_
      refine get_X10_77 (pc := 33) C (wg hG (by decide) (by decide)) dX10_image_33 ?_
      refine V_iload_n (pc := 36) C 1 dX10_image_36 rfl rfl ?_
      refine V_aload_n (pc := 37) C 0 dX10_image_37 rfl rfl ?_
      refine get_X10_44 (pc := 38) C (wg hG (by decide) (by decide)) dX10_image_38 ?_
      refine V_iload_n (pc := 41) C 1 dX10_image_41 rfl rfl ?_
      refine V_iald (pc := 42) C (k) rfl (by omega) (Nat.le_of_ble_eq_true rfl) (wg hG (by decide) (by decide)) wF_41 dX10_image_42 ?_
      refine V_iast (pc := 43) C (k) rfl (by omega) (Nat.le_of_ble_eq_true rfl) (wg hG (by decide) (by decide)) (fun _ => wF_51) dX10_image_43 ?_
      rw [b41]
      refine Vs_iinc (v := nI (k + 1)) (lv' := [(0, _), (1, _)]) (pc := 44) C 1 dX10_image_44 rfl (by decide) rfl (nI_i1 (k)) rfl ?_
      refine V_goto (tgt := 2) (pc := 47) C dX10_image_47 (by decide) ?_
      refine ih (k + 1) _ (by omega) (fun g i j x y w => ?_) (fun j hj => ?_) hQ
      · rw [mset_at, if_neg (by omega), mset_at, if_neg (by omega), mset_at, if_neg (by omega)]
        exact hF g i j x y w
      · by_cases e : j = k
        · subst e
          simp [mset_at]
        · have := hR j (by omega)
          simp [mset_at, e]
          exact this
theorem o_image (hG : 56 ≤ G) (hd : 1 ≤ d) {M0 M : wS} {nb nt tc z bo r : Nat} (h : RR M0 M nb nt tc z bo r) : Ctr l D cy ad G d yX10_image cX10_image 2 (some .int) [.ref (ad 30 0)] M (rI fun x M' => RO (M0.1 26 0 4, kImage M0 nb nt) M x M') := by
  have hu := h.uO
  obtain ⟨c1, c2, c3, c4, c5, c6, c7, c8, c9, c10⟩ := h
  have hb7 := c1.1.2
  have ht7 := c1.2.1.2
  refine Ctr.of (lv0 := [(0, _)]) (by decide) (Nat.le_of_ble_eq_true rfl) rfl ?_
  intro p e s m args below meth c C hr hlk _
  have C : CX p s m args c cX10_image 2 "CostsAgeModel" D cy ad G (wA ad G) (Rm d) d 0 0 := C
  refine V_iconst (v := 0) (pc := 0) C dX10_image_0 (by decide) ?_
  refine Vs_istore_n (lv' := [(0, _), (1, _)]) (pc := 1) C dX10_image_1 rfl (by decide) rfl rfl ?_
  refine lp_X10_image C hr hlk hG (Ms := M) _ 7 0 M (by decide) (fun _ _ _ _ _ _ => rfl) (fun j hj => absurd hj (Nat.not_lt_zero _)) (fun M1 g1 g2 => ?_)
  have f : ∀ k, M1.1 30 0 k = M.1 30 0 k := fun k => g1 30 0 k (by decide) (by decide) (by decide)
  have f12 := (f 12).trans c4.1.1
  have f16 := (f 16).trans c4.1.2
  have f17 := (f 17).trans (c4.2.1.1.trans c2.1.1)
  have f18 := (f 18).trans c4.2.1.2.1
  have f19 := (f 19).trans c5.1
  have f20 := (f 20).trans c5.2
  have f21 := (f 21).trans c4.2.1.2.2.1
  have f4 := (f 4).trans c4.2.1.2.2.2
  refine V_aload_n (pc := 50) C 0 dX10_image_50 rfl rfl ?_
  refine V_aload_n (pc := 51) C 0 dX10_image_51 rfl rfl ?_
  refine get_X10_103 (pc := 52) C (wg hG (by decide) (by decide)) dX10_image_52 ?_
  refine put_X10_80 (pc := 55) C (wg hG (by decide) (by decide)) dX10_image_55 ?_
  refine V_aload_n (pc := 58) C 0 dX10_image_58 rfl rfl ?_
  refine V_aload_n (pc := 59) C 0 dX10_image_59 rfl rfl ?_
  refine get_X10_110 (pc := 60) C (wg hG (by decide) (by decide)) dX10_image_60 ?_
  refine put_X10_330 (pc := 63) C (wg hG (by decide) (by decide)) dX10_image_63 ?_
  refine V_aload_n (pc := 66) C 0 dX10_image_66 rfl rfl ?_
  refine V_aload_n (pc := 67) C 0 dX10_image_67 rfl rfl ?_
  refine get_X10_113 (pc := 68) C (wg hG (by decide) (by decide)) dX10_image_68 ?_
  refine put_X10_333 (pc := 71) C (wg hG (by decide) (by decide)) dX10_image_71 ?_
  refine V_aload_n (pc := 74) C 0 dX10_image_74 rfl rfl ?_
  refine V_aload_n (pc := 75) C 0 dX10_image_75 rfl rfl ?_
  refine get_X10_141 (pc := 76) C (wg hG (by decide) (by decide)) dX10_image_76 ?_
  refine put_X10_336 (pc := 79) C (wg hG (by decide) (by decide)) dX10_image_79 ?_
  refine V_aload_n (pc := 82) C 0 dX10_image_82 rfl rfl ?_
  refine V_aload_n (pc := 83) C 0 dX10_image_83 rfl rfl ?_
  refine get_X10_315 (pc := 84) C (wg hG (by decide) (by decide)) dX10_image_84 ?_
  refine put_X10_339 (pc := 87) C (wg hG (by decide) (by decide)) dX10_image_87 ?_
  refine V_aload_n (pc := 90) C 0 dX10_image_90 rfl rfl ?_
  refine V_aload_n (pc := 91) C 0 dX10_image_91 rfl rfl ?_
  refine get_X10_312 (pc := 92) C (wg hG (by decide) (by decide)) dX10_image_92 ?_
  refine put_X10_342 (pc := 95) C (wg hG (by decide) (by decide)) dX10_image_95 ?_
  refine V_aload_n (pc := 98) C 0 dX10_image_98 rfl rfl ?_
  refine V_aload_n (pc := 99) C 0 dX10_image_99 rfl rfl ?_
  refine get_X10_47 (pc := 100) C (wg hG (by decide) (by decide)) dX10_image_100 ?_
  refine put_X10_345 (pc := 103) C (wg hG (by decide) (by decide)) dX10_image_103 ?_
  refine V_aload_n (pc := 106) C 0 dX10_image_106 rfl rfl ?_
  refine V_aload_n (pc := 107) C 0 dX10_image_107 rfl rfl ?_
  refine get_X10_270 (pc := 108) C (wg hG (by decide) (by decide)) dX10_image_108 ?_
  refine put_X10_348 (pc := 111) C (wg hG (by decide) (by decide)) dX10_image_111 ?_
  refine V_aload_n (pc := 114) C 0 dX10_image_114 rfl rfl ?_
  refine get_X10_141 (pc := 115) C (wg hG (by decide) (by decide)) dX10_image_115 ?_
  refine V_iret (pc := 118) C hr hlk dX10_image_118 ⟨_, rfl, ?_⟩
  refine ⟨?_, fun g i e => ?_, nb, nt, tc, z, bo, r, ?_⟩
  · simp [mset_at]; exact f18
  · funext k
    repeat rw [mset_at, if_neg (by omega)]
    exact g1 g i k (by omega) (by omega) (by omega)
  · have k0 : ∀ g i k, ¬ (26 ≤ g ∧ g ≤ 29 ∧ i = 1) → ¬ (g = 0 ∧ i = 0 ∧ k = 10) → (kImage M0 nb nt).1 g i k = M0.1 g i k := fun g i k a b => kImage_oth M0 nb nt a b
    refine ⟨c1.fr (fun g i k e => k0 g i k (by omega) (by omega)) ?_, c2.fr (fun g i k e => k0 g i k (by omega) (by omega)), c3.fr (fun g i k e => k0 g i k (by omega) (by omega)), c4.fr (fun g i k e => k0 g i k (by omega) (by omega)) ?_, c5.fr (fun g i k e => k0 g i k (by omega) (by omega)) ?_, c6.fr (fun g i k e => k0 g i k (by omega) (by omega)) ?_, c7.fr (fun g i k e => k0 g i k (by omega) (by omega)) ?_, c8.fr (fun g i k e => k0 g i k (by omega) (by omega)) ?_, Or.inr ⟨?_, nb, nt, bo, r, ⟨Nat.le_refl _, Nat.le_refl _, c1.2.2.1.2.1, c2.1.2⟩, ⟨?_, ?_, ?_, ?_⟩, ⟨?_, ?_⟩, ?_, fun k hk => ?_, fun k hk => ?_⟩, c10.fr (fun g i k e => k0 g i k (by omega) (by omega))⟩
    · intro g i k e
      repeat rw [mset_at, if_neg (by omega)]
      exact g1 g i k (by omega) (by omega) (by omega)
    · intro g i k e
      repeat rw [mset_at, if_neg (by omega)]
      exact g1 g i k (by omega) (by omega) (by omega)
    · intro g i k e
      repeat rw [mset_at, if_neg (by omega)]
      exact g1 g i k (by omega) (by omega) (by omega)
    · intro g i k e
      repeat rw [mset_at, if_neg (by omega)]
      exact g1 g i k (by omega) (by omega) (by omega)
    · intro g i k e
      repeat rw [mset_at, if_neg (by omega)]
      exact g1 g i k (by omega) (by omega) (by omega)
    · intro g i k e
      repeat rw [mset_at, if_neg (by omega)]
      exact g1 g i k (by omega) (by omega) (by omega)
    · simp [kImage, mset_at]
    · simp [kImage, mset_at]
    · simp [kImage, mset_at]
    · simp only [kImage, mset_at, kBec_at]
      simp
      rw [mask_and', c2.1.1]
      exact mask_id nt (by omega) bo hu.1 c2.1.2
    · simp only [kImage, mset_at, kBec_at]
      simp
      exact c2.2.2.2
    · simp only [kImage, mset_at, kBec_at]
      simp
      exact c2.2.1
    · simp only [kImage, mset_at, kBec_at]
      simp
      exact c2.2.2.1
    · simp only [kImage, mset_at, kBec_at]
      simp
      exact ⟨f12, f16, f17, f18, f19, f20, f21, f4⟩
    · have h3 := c3 k (by omega)
      have h4 := (c4.2.2 k (by omega)).1
      have h5 := g2 k (by omega)
      simp only [kImage, mset_at, kBec_at]
      simp [cpy0, hk]
      exact ⟨⟨h5.1.trans h4.2.2.1, h5.2.1.trans h4.2.2.2.1⟩, h3.2.2.2.1, h3.2.2.2.2⟩
    · have h4 := (c4.2.2 k (by omega)).2
      have h5 := g2 k (by omega)
      simp only [kImage, mset_at, kBec_at]
      simp [cpy0, hk]
      exact h5.2.2.trans h4.2.2
end S79
