theorem sort_in {x : Int32} : (-1 ≤ x ∧ x ≤ 2) ↔ (x = -1 ∨ 0 ≤ x ∧ x ≤ 2) := by
  constructor
  · rintro ⟨a, b⟩
    (simp only [i32_eq, Int32.le_iff_toInt_le, Int32.lt_iff_toInt_lt, Int32.not_le, Int32.not_lt, Int32.toInt_add, Int32.toInt_sub, Int32.toInt_mul, Int32.toInt_neg, Int32.toInt_div, tdv2, tdv4, tdv10, tdv52, tdv100, nI_T, apply_ite Int32.toInt, Int.bmod, Int32.reduceToInt] at *; omega)
  · rintro h
    (simp only [i32_eq, Int32.le_iff_toInt_le, Int32.lt_iff_toInt_lt, Int32.not_le, Int32.not_lt, Int32.toInt_add, Int32.toInt_sub, Int32.toInt_mul, Int32.toInt_neg, Int32.toInt_div, tdv2, tdv4, tdv10, tdv52, tdv100, nI_T, apply_ite Int32.toInt, Int.bmod, Int32.reduceToInt] at *; omega)
section S82
variable {l : Launch} {D : va_G} {cy : Nat → ClassId} {ad : Nat → Nat → Nat} {G d : Nat}
theorem RR.sheetNew {M0 M M' : wS} {nb nt tc z bo r k nn : Nat} {sort : Int32} (h : RR M0 M nb nt tc z bo r) (hk : k < 4) (h40 : nn ≤ 40) (h1 : ∀ g i j, ¬ (52 ≤ g ∧ g ≤ 55) → M'.1 g i j = M.1 g i j) (h2 : ∀ g j, 52 ≤ g ∧ g ≤ 54 ∧ j ≠ k → M'.1 g 0 j = M.1 g 0 j) (h3 : ∀ j, ¬ (40 * k ≤ j ∧ j < 40 * k + 40) → M'.1 55 0 j = M.1 55 0 j) (h4 : M'.1 52 0 k = bI (¬ sort = -1)) (h5 : ¬ sort = -1 → (0 ≤ sort ∧ sort ≤ 2) ∧ M'.1 53 0 k = sort ∧ M'.1 54 0 k = nI nn ∧ ∀ j, j < nn → M'.1 55 0 (40 * k + j) = 0) : RR (mfill 10 k 0 40 (mset (mset M0 9 k 1 sort) 9 k 2 (nI nn))) M' nb nt tc z bo r := by
  refine h.sheets (fun g i j e => ?_) h1 (fun s hs => ?_)
  · rw [mfill_at, if_neg (by omega), mset_at, if_neg (by omega), mset_at, if_neg (by omega)]
  have hS := h.2.2.2.2.2.2.2.1 s hs
  by_cases e : s = k
  · subst e
    have a1 : (mfill 10 s 0 40 (mset (mset M0 9 s 1 sort) 9 s 2 (nI nn))).1 9 s 1 = sort := by
      rw [mfill_at, if_neg (by omega), mset_at, if_neg (by omega), mset_at, if_pos ⟨rfl, rfl, rfl⟩]
    have a2 : (mfill 10 s 0 40 (mset (mset M0 9 s 1 sort) 9 s 2 (nI nn))).1 9 s 2 = nI nn := by
      rw [mfill_at, if_neg (by omega), mset_at, if_pos ⟨rfl, rfl, rfl⟩]
    refine ⟨nn, h40, a2, ?_, ?_⟩
    · rw [a1]; exact h4
    · rw [a1]
      intro e
      obtain ⟨t1, t2, t3, t4⟩ := h5 e
      refine ⟨t1, t2, t3, fun j hj => ?_⟩
      rw [mfill_at, if_pos ⟨rfl, rfl, by omega, by omega⟩]
      exact t4 j hj
  · obtain ⟨n, s1, s2, s3, s4⟩ := hS
    have a0 : ∀ g i j, g = 9 ∨ g = 10 → i = s → (mfill 10 k 0 40 (mset (mset M0 9 k 1 sort) 9 k 2 (nI nn))).1 g i j = M0.1 g i j := fun g i j _ _ => by
      rw [mfill_at, if_neg (by omega), mset_at, if_neg (by omega), mset_at, if_neg (by omega)]
    refine ⟨n, s1, ?_, ?_, ?_⟩
    · rw [a0 9 s 2 (by omega) rfl]; exact s2
    · rw [a0 9 s 1 (by omega) rfl, h2 52 s (by omega)]; exact s3
    · rw [a0 9 s 1 (by omega) rfl, h2 53 s (by omega), h2 54 s (by omega)]
      intro e
      obtain ⟨b1, b2, b3, b4⟩ := s4 e
      refine ⟨b1, b2, b3, fun j hj => ?_⟩
      rw [a0 10 s j (by omega) rfl, h3 (40 * s + j) (by omega)]
      exact b4 j hj
theorem lp_X10_sheet {p : Program} {e : Env} {s : State} {m : MethodId} {args : Array Value} {below : List Frame} {meth : Method} {c : Code} (C : CX p s m args c cX10_sheet 5 "CostsAgeModel" D cy ad G (wA ad G) (Rm d) d 0 0) (hr : meth.sig.returnType = (some .int)) (hlk : meth.locks = false) (hG : 56 ≤ G) {Ms : wS} {k nn : Nat} {sort : Int32} (hk : k < 4) (h40 : nn ≤ 40) (hs0 : 0 ≤ sort) (Qf : Int32 → wS → Prop) : ∀ (n j : Nat) (M : wS), j + n = nn → (∀ g i q, g ≠ 55 → M.1 g i q = Ms.1 g i q) → (∀ q, ¬ (40 * k ≤ q ∧ q < 40 * k + 40) → M.1 55 0 q = Ms.1 55 0 q) → (∀ q, q < j → M.1 55 0 (40 * k + q) = 0) → (∀ M', (∀ g i q, g ≠ 55 → M'.1 g i q = Ms.1 g i q) → (∀ q, ¬ (40 * k ≤ q ∧ q < 40 * k + 40) → M'.1 55 0 q = Ms.1 55 0 q) → (∀ q, q < nn → M'.1 55 0 (40 * k + q) = 0) → Qf 1 M') → V p l e (Rm d) s m args below meth c 5 D cy ad G (wA ad G) 0 0 (MQ below (wQ D cy ad G (rI Qf)) args s 0 0 (wA ad G)) 77 [(0, .ref (ad 30 0)), (1, .int (nI k)), (2, .int sort), (3, .int (nI nn)), (4, .int (nI j))] [] M := by
  intro n
  induction n with
  | zero =>
    intro j M hj hF hR hZ hQ
    obtain rfl : j = nn := by omega
    refine V_iload (pc := 77) C 4 dX10_sheet_77 rfl ?_
    refine V_iload_n (pc := 79) C 3 dX10_sheet_79 rfl rfl ?_
    refine V_icmp_ge (tgt := 106) (pc := 80) C dX10_sheet_80 (by decide) (fun h_80 => ?_) (fun h_80 => ?_)
    · refine V_iconst (v := 1) (pc := 106) C dX10_sheet_106 (by decide) ?_
      refine V_iret (pc := 107) C hr hlk dX10_sheet_107 ⟨_, rfl, ?_⟩
      exact hQ M hF hR hZ
    · exact absurd (nI_le (Nat.le_refl _) (by omega)) h_80
  | succ n ih =>
    intro j M hj hF hR hZ hQ
    refine V_iload (pc := 77) C 4 dX10_sheet_77 rfl ?_
    refine V_iload_n (pc := 79) C 3 dX10_sheet_79 rfl rfl ?_
    refine V_icmp_ge (tgt := 106) (pc := 80) C dX10_sheet_80 (by decide) (fun h_80 => ?_) (fun h_80 => ?_)
    · exact absurd h_80 (nI_ge (by omega) (by omega))
    · refine V_iload_n (pc := 83) C 2 dX10_sheet_83 rfl rfl ?_
      refine V_if_lt (tgt := 106) (pc := 84) C dX10_sheet_84 (by decide) (fun h_84 => ?_) (fun h_84 => ?_)
      · exact absurd h_84 (Int32.not_lt.mpr hs0)
      · refine V_aload_n (pc := 87) C 0 dX10_sheet_87 rfl rfl ?_
        refine get_X10_93 (pc := 88) C (wg hG (by decide) (by decide)) dX10_sheet_88 ?_
        refine V_bipush (v := 40) (pc := 91) C dX10_sheet_91 (by decide) ?_
        refine V_iload_n (pc := 93) C 1 dX10_sheet_93 rfl rfl ?_
        refine V_imul (pc := 94) C dX10_sheet_94 ?_
        refine V_iload (pc := 95) C 4 dX10_sheet_95 rfl ?_
        refine V_iadd (pc := 97) C dX10_sheet_97 ?_
        refine V_iconst (v := 0) (pc := 98) C dX10_sheet_98 (by decide) ?_
        refine V_iast (pc := 99) C (40 * k + j) (by rw [show (40 : Int32) = nI 40 from rfl, pk_mul, nI_add]) (by omega) (Nat.le_of_ble_eq_true rfl) (wg hG (by decide) (by decide)) (fun _ => wF_55) dX10_sheet_99 ?_
        refine Vs_iinc (v := nI (j + 1)) (lv' := [(0, _), (1, _), (2, _), (3, _), (4, _)]) (pc := 100) C 4 dX10_sheet_100 rfl (by decide) rfl (nI_i1 (j)) rfl ?_
        refine V_goto (tgt := 77) (pc := 103) C dX10_sheet_103 (by decide) ?_
        refine ih (j + 1) _ (by omega) (fun g i q e => ?_) (fun q e => ?_) (fun q e => ?_) hQ
        · rw [mset_at, if_neg (by omega)]; exact hF g i q e
        · rw [mset_at, if_neg (by omega)]; exact hR q e
        · rw [mset_at]
          by_cases e2 : q = j
          · rw [if_pos (by omega)]
          · rw [if_neg (by omega)]; exact hZ q (by omega)
theorem o_sheet (hG : 56 ≤ G) (hd : 2 ≤ d) {M0 M : wS} {nb nt tc z bo r : Nat} (h : RR M0 M nb nt tc z bo r) (s0 sort v : Int32) : Ctr l D cy ad G d yX10_sheet cX10_sheet 5 (some .int) [.ref (ad 30 0), .int s0, .int sort, .int v] M (rI fun x M' => RO (kSheet M0 s0 sort v) M x M') := by
  have bad : ¬ ((0 ≤ s0 ∧ s0 < 4) ∧ (sort = -1 ∨ 0 ≤ sort ∧ sort ≤ 2)) → RO (kSheet M0 s0 sort v) M (-2) M := fun e => by
    rw [kSheet, if_neg e]
    exact ⟨rfl, cK.rf, h.keep⟩
  refine Ctr.of (lv0 := [(0, _), (1, _), (2, _), (3, _)]) (by decide) (Nat.le_of_ble_eq_true rfl) rfl ?_
  intro p e s m args below meth c C hr hlk _
  have C : CX p s m args c cX10_sheet 5 "CostsAgeModel" D cy ad G (wA ad G) (Rm d) d 0 0 := C
  refine V_iload_n (pc := 0) C 1 dX10_sheet_0 rfl rfl ?_
  refine call_X10_326 (pc := 1) C (c_X10_isSheet (d := d - 1) hG (by omega) M s0) (by omega) (Nat.le_of_ble_eq_true rfl) dX10_sheet_1 (fun x_1 M_1 h_1 => ?_)
  obtain ⟨e_1, rfl⟩ := h_1
  have e_1 := e_1.symm
  subst e_1
  refine V_if_eq (tgt := 31) (pc := 4) C dX10_sheet_4 (by decide) (fun h_4 => ?_) (fun h_4 => ?_)
  · have h_4 := bJ_0.mp h_4
    refine V_bipush (v := -2) (pc := 31) C dX10_sheet_31 (by decide) ?_
    refine V_iret (pc := 33) C hr hlk dX10_sheet_33 ⟨_, rfl, ?_⟩
    exact bad (fun e => h_4 e.1)
  · have h_4 := bJ_1.mp h_4
    obtain ⟨k, hk, rfl⟩ := ix_of (n := 4) h_4.1 h_4.2 (by decide)
    have ek : (nI k).toNatClampNeg = k := nI_clamp (by omega)
    refine V_iload_n (pc := 7) C 2 dX10_sheet_7 rfl rfl ?_
    refine V_i2l (pc := 8) C dX10_sheet_8 ?_
    refine V_ldc2 (pc := 9) C dX10_sheet_9 qk_X10_353 ?_
    refine V_ldc2 (pc := 12) C dX10_sheet_12 qk_X10_355 ?_
    refine call_X10_106 (pc := 15) C (c_in (d := d - 1) M sort (-1) 2 (by decide) (by decide)) (by omega) (Nat.le_of_ble_eq_true rfl) dX10_sheet_15 (fun x_15 M_15 h_15 => ?_)
    obtain ⟨e_15, rfl⟩ := h_15
    have e_15 := e_15.symm
    subst e_15
    refine V_if_eq (tgt := 31) (pc := 18) C dX10_sheet_18 (by decide) (fun h_18 => ?_) (fun h_18 => ?_)
    · have h_18 := bJ_0.mp h_18
      refine V_bipush (v := -2) (pc := 31) C dX10_sheet_31 (by decide) ?_
      refine V_iret (pc := 33) C hr hlk dX10_sheet_33 ⟨_, rfl, ?_⟩
      exact bad (fun e => h_18 (sort_in.mpr e.2))
    · have h_18 := bJ_1.mp h_18
      have hst := sort_in.mp h_18
      refine V_iload_n (pc := 21) C 2 dX10_sheet_21 rfl rfl ?_
      refine V_if_lt (tgt := 34) (pc := 22) C dX10_sheet_22 (by decide) (fun h_22 => ?_) (fun h_22 => ?_)
      · have hs1 : sort = -1 := hst.resolve_right (fun y => absurd h_22 (Int32.not_lt.mpr y.1))
        refine V_iload_n (pc := 34) C 2 dX10_sheet_34 rfl rfl ?_
        refine V_if_lt (tgt := 45) (pc := 35) C dX10_sheet_35 (by decide) (fun h_35 => ?_) (fun h_35 => ?_)
        · refine V_aload_n (pc := 45) C 0 dX10_sheet_45 rfl rfl ?_
          refine get_X10_83 (pc := 46) C (wg hG (by decide) (by decide)) dX10_sheet_46 ?_
          refine V_iload_n (pc := 49) C 1 dX10_sheet_49 rfl rfl ?_
          refine V_iload_n (pc := 50) C 2 dX10_sheet_50 rfl rfl ?_
          refine V_if_lt (tgt := 58) (pc := 51) C dX10_sheet_51 (by decide) (fun h_51 => ?_) (fun h_51 => ?_)
          · refine V_iconst (v := 0) (pc := 58) C dX10_sheet_58 (by decide) ?_
            refine V_zast (pc := 59) C (k) rfl hk (Nat.le_of_ble_eq_true rfl) rfl (wg hG (by decide) (by decide)) (fun _ => wF_52) dX10_sheet_59 ?_
            refine V_aload_n (pc := 60) C 0 dX10_sheet_60 rfl rfl ?_
            refine get_X10_87 (pc := 61) C (wg hG (by decide) (by decide)) dX10_sheet_61 ?_
            refine V_iload_n (pc := 64) C 1 dX10_sheet_64 rfl rfl ?_
            refine V_iload_n (pc := 65) C 2 dX10_sheet_65 rfl rfl ?_
            refine V_iast (pc := 66) C (k) rfl hk (Nat.le_of_ble_eq_true rfl) (wg hG (by decide) (by decide)) (fun _ => wF_53) dX10_sheet_66 ?_
            refine V_aload_n (pc := 67) C 0 dX10_sheet_67 rfl rfl ?_
            refine get_X10_90 (pc := 68) C (wg hG (by decide) (by decide)) dX10_sheet_68 ?_
            refine V_iload_n (pc := 71) C 1 dX10_sheet_71 rfl rfl ?_
            refine V_iload_n (pc := 72) C 3 dX10_sheet_72 rfl rfl ?_
            refine V_iast (pc := 73) C (k) rfl hk (Nat.le_of_ble_eq_true rfl) (wg hG (by decide) (by decide)) (fun _ => wF_54) dX10_sheet_73 ?_
            refine V_iconst (v := 0) (pc := 74) C dX10_sheet_74 (by decide) ?_
            refine Vs_istore (lv' := [(0, _), (1, _), (2, _), (3, _), (4, _)]) (pc := 75) C dX10_sheet_75 (by decide) rfl rfl ?_
            refine V_iload (pc := 77) C 4 dX10_sheet_77 rfl ?_
            refine V_iload_n (pc := 79) C 3 dX10_sheet_79 rfl rfl ?_
            refine V_icmp_ge (tgt := 106) (pc := 80) C dX10_sheet_80 (by decide) (fun h_80 => ?_) (fun h_80 => ?_)
            · refine V_iconst (v := 1) (pc := 106) C dX10_sheet_106 (by decide) ?_
              refine V_iret (pc := 107) C hr hlk dX10_sheet_107 ⟨_, rfl, ?_⟩
              rw [kSheet, if_pos ⟨h_4, hst⟩, ek, if_pos hs1, ← hs1]
              refine ⟨rfl, fun g i e => ?_, nb, nt, tc, z, bo, r, h.sheetNew (nn := 0) hk (by decide) ?_ ?_ ?_ ?_ ?_⟩
              · funext q
                rw [mset_at, if_neg (by omega), mset_at, if_neg (by omega), mset_at, if_neg (by omega)]
              · intro g i q e
                rw [mset_at, if_neg (by omega), mset_at, if_neg (by omega), mset_at, if_neg (by omega)]
              · intro g q e
                rw [mset_at, if_neg (by omega), mset_at, if_neg (by omega), mset_at, if_neg (by omega)]
              · intro q e
                rw [mset_at, if_neg (by omega), mset_at, if_neg (by omega), mset_at, if_neg (by omega)]
              · rw [mset_at, if_neg (by omega), mset_at, if_neg (by omega), mset_at, if_pos ⟨rfl, rfl, rfl⟩]
                exact bI_f (fun y => y hs1)
              · exact fun y => absurd hs1 y
            · refine V_iload_n (pc := 83) C 2 dX10_sheet_83 rfl rfl ?_
              refine V_if_lt (tgt := 106) (pc := 84) C dX10_sheet_84 (by decide) (fun h_84 => ?_) (fun h_84 => ?_)
              · refine V_iconst (v := 1) (pc := 106) C dX10_sheet_106 (by decide) ?_
                refine V_iret (pc := 107) C hr hlk dX10_sheet_107 ⟨_, rfl, ?_⟩
                rw [kSheet, if_pos ⟨h_4, hst⟩, ek, if_pos hs1, ← hs1]
                refine ⟨rfl, fun g i e => ?_, nb, nt, tc, z, bo, r, h.sheetNew (nn := 0) hk (by decide) ?_ ?_ ?_ ?_ ?_⟩
                · funext q
                  rw [mset_at, if_neg (by omega), mset_at, if_neg (by omega), mset_at, if_neg (by omega)]
                · intro g i q e
                  rw [mset_at, if_neg (by omega), mset_at, if_neg (by omega), mset_at, if_neg (by omega)]
                · intro g q e
                  rw [mset_at, if_neg (by omega), mset_at, if_neg (by omega), mset_at, if_neg (by omega)]
                · intro q e
                  rw [mset_at, if_neg (by omega), mset_at, if_neg (by omega), mset_at, if_neg (by omega)]
                · rw [mset_at, if_neg (by omega), mset_at, if_neg (by omega), mset_at, if_pos ⟨rfl, rfl, rfl⟩]
                  exact bI_f (fun y => y hs1)
                · exact fun y => absurd hs1 y
              · exact absurd h_22 h_84
          · exact absurd h_22 h_51
        · exact absurd h_22 h_35
      · have hs0 : 0 ≤ sort := Int32.not_lt.mp h_22
        have hsn : ¬ sort = -1 := fun e => by rw [e] at hs0; exact absurd hs0 (by decide)
        refine V_iload_n (pc := 25) C 3 dX10_sheet_25 rfl rfl ?_
        refine V_bipush (v := 40) (pc := 26) C dX10_sheet_26 (by decide) ?_
        refine V_icmp_le (tgt := 34) (pc := 28) C dX10_sheet_28 (by decide) (fun h_28 => ?_) (fun h_28 => ?_)
        · refine V_iload_n (pc := 34) C 2 dX10_sheet_34 rfl rfl ?_
          refine V_if_lt (tgt := 45) (pc := 35) C dX10_sheet_35 (by decide) (fun h_35 => ?_) (fun h_35 => ?_)
          · exact absurd h_35 h_22
          · refine V_iload_n (pc := 38) C 3 dX10_sheet_38 rfl rfl ?_
            refine V_if_ge (tgt := 45) (pc := 39) C dX10_sheet_39 (by decide) (fun h_39 => ?_) (fun h_39 => ?_)
            · obtain ⟨nn, hn, rfl⟩ := ix_of (n := 41) h_39 (by have := h_28; (simp only [i32_eq, Int32.le_iff_toInt_le, Int32.lt_iff_toInt_lt, Int32.not_le, Int32.not_lt, Int32.toInt_add, Int32.toInt_sub, Int32.toInt_mul, Int32.toInt_neg, Int32.toInt_div, tdv2, tdv4, tdv10, tdv52, tdv100, nI_T, apply_ite Int32.toInt, Int.bmod, Int32.reduceToInt] at *; omega)) (by decide)
              have en : (nI nn).toNatClampNeg = nn := nI_clamp (by omega)
              refine V_aload_n (pc := 45) C 0 dX10_sheet_45 rfl rfl ?_
              refine get_X10_83 (pc := 46) C (wg hG (by decide) (by decide)) dX10_sheet_46 ?_
              refine V_iload_n (pc := 49) C 1 dX10_sheet_49 rfl rfl ?_
              refine V_iload_n (pc := 50) C 2 dX10_sheet_50 rfl rfl ?_
              refine V_if_lt (tgt := 58) (pc := 51) C dX10_sheet_51 (by decide) (fun h_51 => ?_) (fun h_51 => ?_)
              · exact absurd h_51 h_22
              · refine V_iconst (v := 1) (pc := 54) C dX10_sheet_54 (by decide) ?_
                refine V_goto (tgt := 59) (pc := 55) C dX10_sheet_55 (by decide) ?_
                refine V_zast (pc := 59) C (k) rfl hk (Nat.le_of_ble_eq_true rfl) rfl (wg hG (by decide) (by decide)) (fun _ => wF_52) dX10_sheet_59 ?_
                refine V_aload_n (pc := 60) C 0 dX10_sheet_60 rfl rfl ?_
                refine get_X10_87 (pc := 61) C (wg hG (by decide) (by decide)) dX10_sheet_61 ?_
                refine V_iload_n (pc := 64) C 1 dX10_sheet_64 rfl rfl ?_
                refine V_iload_n (pc := 65) C 2 dX10_sheet_65 rfl rfl ?_
                refine V_iast (pc := 66) C (k) rfl hk (Nat.le_of_ble_eq_true rfl) (wg hG (by decide) (by decide)) (fun _ => wF_53) dX10_sheet_66 ?_
                refine V_aload_n (pc := 67) C 0 dX10_sheet_67 rfl rfl ?_
                refine get_X10_90 (pc := 68) C (wg hG (by decide) (by decide)) dX10_sheet_68 ?_
                refine V_iload_n (pc := 71) C 1 dX10_sheet_71 rfl rfl ?_
                refine V_iload_n (pc := 72) C 3 dX10_sheet_72 rfl rfl ?_
                refine V_iast (pc := 73) C (k) rfl hk (Nat.le_of_ble_eq_true rfl) (wg hG (by decide) (by decide)) (fun _ => wF_54) dX10_sheet_73 ?_
                refine V_iconst (v := 0) (pc := 74) C dX10_sheet_74 (by decide) ?_
                refine Vs_istore (lv' := [(0, _), (1, _), (2, _), (3, _), (4, _)]) (pc := 75) C dX10_sheet_75 (by decide) rfl rfl ?_
                refine lp_X10_sheet C hr hlk hG hk (by omega) hs0 _ nn 0 _ (by omega) (fun _ _ _ _ => rfl) (fun _ _ => rfl) (fun q e => absurd e (Nat.not_lt_zero _)) (fun M' g1 g2 g3 => ?_)
                rw [kSheet, if_pos ⟨h_4, hst⟩, ek, if_neg hsn, if_pos h_28, if_pos h_39]
                refine ⟨rfl, fun g i e => ?_, nb, nt, tc, z, bo, r, h.sheetNew (nn := nn) hk (by omega) ?_ ?_ ?_ ?_ ?_⟩
                · funext q
                  rw [g1 g i q (by omega), mset_at, if_neg (by omega), mset_at, if_neg (by omega), mset_at, if_neg (by omega)]
                · intro g i q e
                  rw [g1 g i q (by omega), mset_at, if_neg (by omega), mset_at, if_neg (by omega), mset_at, if_neg (by omega)]
                · intro g q e
                  rw [g1 g 0 q (by omega), mset_at, if_neg (by omega), mset_at, if_neg (by omega), mset_at, if_neg (by omega)]
                · intro q e
                  rw [g2 q e, mset_at, if_neg (by omega), mset_at, if_neg (by omega), mset_at, if_neg (by omega)]
                · rw [g1 52 0 k (by decide), mset_at, if_neg (by omega), mset_at, if_neg (by omega), mset_at, if_pos ⟨rfl, rfl, rfl⟩]
                  exact bI_t hsn
                · intro _
                  refine ⟨hst.resolve_left hsn, ?_, ?_, fun j hj => g3 j hj⟩
                  · rw [g1 53 0 k (by decide), mset_at, if_neg (by omega), mset_at, if_pos ⟨rfl, rfl, rfl⟩]
                  · rw [g1 54 0 k (by decide), mset_at, if_pos ⟨rfl, rfl, rfl⟩]
            · refine V_bipush (v := -14) (pc := 42) C dX10_sheet_42 (by decide) ?_
              refine V_iret (pc := 44) C hr hlk dX10_sheet_44 ⟨_, rfl, ?_⟩
              rw [kSheet, if_pos ⟨h_4, hst⟩, if_neg hsn, if_pos h_28, if_neg h_39]
              exact ⟨rfl, cK.rf, h.keep⟩
        · refine V_bipush (v := -2) (pc := 31) C dX10_sheet_31 (by decide) ?_
          refine V_iret (pc := 33) C hr hlk dX10_sheet_33 ⟨_, rfl, ?_⟩
          rw [kSheet, if_pos ⟨h_4, hst⟩, if_neg hsn, if_neg h_28]
          exact ⟨rfl, cK.rf, h.keep⟩
end S82
