section S78
variable {l : Launch} {D : va_G} {cy : Nat → ClassId} {ad : Nat → Nat → Nat} {G d : Nat}
theorem RR.week {M0 M : wS} {nb nt tc z bo r : Nat} (h : RR M0 M nb nt tc z bo r) {v : Int32} (hv : 0 ≤ v ∧ v ≤ 51) : RR (mset M0 26 0 4 v) (mset M 30 0 18 v) nb nt tc z bo r := by
  obtain ⟨c1, c2, c3, c4, c5, c6, c7, c8, c9, c10⟩ := h
  refine ⟨c1.fr (fun g i k e => by repeat rw [mset_at, if_neg (by omega)]) (fun g i k e => by repeat rw [mset_at, if_neg (by omega)]), ?_, c3.fr (fun g i k e => by repeat rw [mset_at, if_neg (by omega)]), ?_, c5.fr (fun g i k e => by repeat rw [mset_at, if_neg (by omega)]) (fun g i k e => by repeat rw [mset_at, if_neg (by omega)]), c6.fr (fun g i k e => by repeat rw [mset_at, if_neg (by omega)]) (fun g i k e => by repeat rw [mset_at, if_neg (by omega)]), c7.fr (fun g i k e => by repeat rw [mset_at, if_neg (by omega)]) (fun g i k e => by repeat rw [mset_at, if_neg (by omega)]), c8.fr (fun g i k e => by repeat rw [mset_at, if_neg (by omega)]) (fun g i k e => by repeat rw [mset_at, if_neg (by omega)]), c9.fr (Nat.le_refl _) (Nat.le_refl _) (Nat.le_refl _) (fun g i k e => by repeat rw [mset_at, if_neg (by omega)]) (fun g i k e => by repeat rw [mset_at, if_neg (by omega)]), c10.fr (fun g i k e => by repeat rw [mset_at, if_neg (by omega)])⟩
  · simp [pB, mset_at]
    exact ⟨c2.1, hv, c2.2.2⟩
  · refine ⟨⟨?_, ?_⟩, ?_, fun k hk => ?_⟩
    · simp [mset_at]; exact c4.1.1
    · simp [mset_at]; exact c4.1.2
    · simp [mset_at]; exact ⟨c4.2.1.1, c4.2.1.2.2⟩
    · have := c4.2.2 k hk
      simp [mset_at]
      exact this
theorem RR.year {M0 M : wS} {nb nt tc z bo r : Nat} (h : RR M0 M nb nt tc z bo r) {v : Int32} (hv : 0 ≤ v ∧ v ≤ 99) : RR (mset M0 26 0 5 v) (mset M 30 0 19 v) nb nt tc z bo r := by
  obtain ⟨c1, c2, c3, c4, c5, c6, c7, c8, c9, c10⟩ := h
  refine ⟨c1.fr (fun g i k e => by repeat rw [mset_at, if_neg (by omega)]) (fun g i k e => by repeat rw [mset_at, if_neg (by omega)]), ?_, c3.fr (fun g i k e => by repeat rw [mset_at, if_neg (by omega)]), c4.fr (fun g i k e => by repeat rw [mset_at, if_neg (by omega)]) (fun g i k e => by repeat rw [mset_at, if_neg (by omega)]), ?_, c6.fr (fun g i k e => by repeat rw [mset_at, if_neg (by omega)]) (fun g i k e => by repeat rw [mset_at, if_neg (by omega)]), c7.fr (fun g i k e => by repeat rw [mset_at, if_neg (by omega)]) (fun g i k e => by repeat rw [mset_at, if_neg (by omega)]), c8.fr (fun g i k e => by repeat rw [mset_at, if_neg (by omega)]) (fun g i k e => by repeat rw [mset_at, if_neg (by omega)]), c9.fr (Nat.le_refl _) (Nat.le_refl _) (Nat.le_refl _) (fun g i k e => by repeat rw [mset_at, if_neg (by omega)]) (fun g i k e => by repeat rw [mset_at, if_neg (by omega)]), c10.fr (fun g i k e => by repeat rw [mset_at, if_neg (by omega)])⟩
  · simp [pB, mset_at]
    exact ⟨c2.1, c2.2.1, hv, c2.2.2.2⟩
  · simp [pY, mset_at]
    exact c5.2
theorem m99_r {x : Int32} (h : 0 ≤ x ∧ x ≤ 99) : (0 ≤ m99 x ∧ m99 x ≤ 99) ∧ (x < 99 → m99 x = x + 1) ∧ (¬ x < 99 → m99 x = 99 ∧ x = 99) := by
  obtain ⟨k, hk, rfl⟩ := what_lt (n := 99) h (by decide)
  have key : ∀ k, k < 100 → (0 ≤ m99 (nI k) ∧ m99 (nI k) ≤ 99) ∧ (nI k < 99 → m99 (nI k) = nI k + 1) ∧ (¬ nI k < 99 → m99 (nI k) = 99 ∧ nI k = 99) := by decide +kernel
  exact key k (by omega)
theorem lp_X10_pass {p : Program} {e : Env} {s : State} {m : MethodId} {args : Array Value} {below : List Frame} {meth : Method} {c : Code} (C : CX p s m args c cX10_pass 2 "CostsAgeModel" D cy ad G (wA ad G) (Rm d) d 0 0) (hr : meth.sig.returnType = (some .int)) (hlk : meth.locks = false) (hG : 56 ≤ G) {Ms : wS} {nb nt tc z bo r : Nat} (hb7 : nb ≤ 7) (Qf : Int32 → wS → Prop) : ∀ (n b : Nat) (M0 M : wS), b + n = nb → cK Ms M → RR M0 M nb nt tc z bo r → (∀ M', cK Ms M' → RR (pLoop b n M0) M' nb nt tc z bo r → Qf ((pLoop b n M0).1 26 0 4) M') → V p l e (Rm d) s m args below meth c 2 D cy ad G (wA ad G) 0 0 (MQ below (wQ D cy ad G (rI Qf)) args s 0 0 (wA ad G)) 50 [(0, .ref (ad 30 0)), (1, .int (nI b))] [] M := by
  intro n
  induction n with
  | zero =>
    intro b M0 M hb hK h hQ
    have hm := h.2.2.2.1.1.1
    obtain rfl : b = nb := by omega
    refine V_iload_n (pc := 50) C 1 dX10_pass_50 rfl rfl ?_
    refine V_aload_n (pc := 51) C 0 dX10_pass_51 rfl rfl ?_
    refine get_X10_103 (pc := 52) C (wg hG (by decide) (by decide)) dX10_pass_52 ?_
    refine V_icmp_ge (tgt := 98) (pc := 55) C dX10_pass_55 (by decide) (fun h_55 => ?_) (fun h_55 => ?_)
    · refine V_aload_n (pc := 98) C 0 dX10_pass_98 rfl rfl ?_
      refine get_X10_141 (pc := 99) C (wg hG (by decide) (by decide)) dX10_pass_99 ?_
      rw [h.2.2.2.1.2.1.2.1]
      refine V_iret (pc := 102) C hr hlk dX10_pass_102 ⟨_, rfl, ?_⟩
      exact hQ M hK h
    · rw [hm] at h_55
      exact absurd (nI_le (Nat.le_refl _) (by omega)) h_55
  | succ n ih =>
    intro b M0 M hb hK h hQ
    have hm := h.2.2.2.1.1.1
    have hc := (h.2.2.2.1.2.2 b (by omega)).1
    have hw := h.2.2.2.1.2.1.2.1
    have hag := (h.2.2.1 b (by omega)).2.2.2.1
    have hmr := m99_r hag
    unfold pLoop at hQ
    refine V_iload_n (pc := 50) C 1 dX10_pass_50 rfl rfl ?_
    refine V_aload_n (pc := 51) C 0 dX10_pass_51 rfl rfl ?_
    refine get_X10_103 (pc := 52) C (wg hG (by decide) (by decide)) dX10_pass_52 ?_
    refine V_icmp_ge (tgt := 98) (pc := 55) C dX10_pass_55 (by decide) (fun h_55 => ?_) (fun h_55 => ?_)
    · rw [hm] at h_55
      exact absurd h_55 (nI_ge (by omega) (by omega))
    · refine V_aload_n (pc := 58) C 0 dX10_pass_58 rfl rfl ?_
      refine get_X10_26 (pc := 59) C (wg hG (by decide) (by decide)) dX10_pass_59 ?_
      refine V_iload_n (pc := 62) C 1 dX10_pass_62 rfl rfl ?_
      refine V_iald (pc := 63) C (b) rfl (by omega) (Nat.le_of_ble_eq_true rfl) (wg hG (by decide) (by decide)) wF_35 dX10_pass_63 ?_
      refine V_aload_n (pc := 64) C 0 dX10_pass_64 rfl rfl ?_
      refine get_X10_141 (pc := 65) C (wg hG (by decide) (by decide)) dX10_pass_65 ?_
      rw [hc.2.1, hw]
      refine V_icmp_ne (tgt := 92) (pc := 68) C dX10_pass_68 (by decide) (fun h_68 => ?_) (fun h_68 => ?_)
      · rw [show pStep M0 b = M0 by rw [pStep, if_neg h_68]] at hQ
        refine Vs_iinc (v := nI (b + 1)) (lv' := [(0, _), (1, _)]) (pc := 92) C 1 dX10_pass_92 rfl (by decide) rfl (nI_i1 (b)) rfl ?_
        refine V_goto (tgt := 50) (pc := 95) C dX10_pass_95 (by decide) ?_
        exact ih (b + 1) M0 M (by omega) hK h hQ
      · rw [show pStep M0 b = mset M0 27 0 b (m99 (M0.1 27 0 b)) by rw [pStep, if_pos h_68]] at hQ
        refine V_aload_n (pc := 71) C 0 dX10_pass_71 rfl rfl ?_
        refine get_X10_29 (pc := 72) C (wg hG (by decide) (by decide)) dX10_pass_72 ?_
        refine V_iload_n (pc := 75) C 1 dX10_pass_75 rfl rfl ?_
        refine V_iald (pc := 76) C (b) rfl (by omega) (Nat.le_of_ble_eq_true rfl) (wg hG (by decide) (by decide)) wF_36 dX10_pass_76 ?_
        refine V_bipush (v := 99) (pc := 77) C dX10_pass_77 (by decide) ?_
        rw [hc.2.2.1]
        refine V_icmp_ge (tgt := 92) (pc := 79) C dX10_pass_79 (by decide) (fun h_79 => ?_) (fun h_79 => ?_)
        · have hn := hmr.2.2 (Int32.not_lt.mpr h_79)
          rw [mset_id M0 (show M0.1 27 0 b = m99 (M0.1 27 0 b) by rw [hn.1]; exact hn.2)] at hQ
          refine Vs_iinc (v := nI (b + 1)) (lv' := [(0, _), (1, _)]) (pc := 92) C 1 dX10_pass_92 rfl (by decide) rfl (nI_i1 (b)) rfl ?_
          refine V_goto (tgt := 50) (pc := 95) C dX10_pass_95 (by decide) ?_
          exact ih (b + 1) M0 M (by omega) hK h hQ
        · have hn := hmr.2.1 (Int32.not_le.mp h_79)
          refine V_aload_n (pc := 82) C 0 dX10_pass_82 rfl rfl ?_
          refine get_X10_29 (pc := 83) C (wg hG (by decide) (by decide)) dX10_pass_83 ?_
          refine V_iload_n (pc := 86) C 1 dX10_pass_86 rfl rfl ?_
          refine V_dup2 (pc := 87) C dX10_pass_87 rfl rfl ?_
          refine V_iald (pc := 88) C (b) rfl (by omega) (Nat.le_of_ble_eq_true rfl) (wg hG (by decide) (by decide)) wF_36 dX10_pass_88 ?_
          rw [hc.2.2.1]
          refine V_iconst (v := 1) (pc := 89) C dX10_pass_89 (by decide) ?_
          refine V_iadd (pc := 90) C dX10_pass_90 ?_
          rw [← hn]
          refine V_iast (pc := 91) C (b) rfl (by omega) (Nat.le_of_ble_eq_true rfl) (wg hG (by decide) (by decide)) (fun _ => wF_36) dX10_pass_91 ?_
          refine Vs_iinc (v := nI (b + 1)) (lv' := [(0, _), (1, _)]) (pc := 92) C 1 dX10_pass_92 rfl (by decide) rfl (nI_i1 (b)) rfl ?_
          refine V_goto (tgt := 50) (pc := 95) C dX10_pass_95 (by decide) ?_
          exact ih (b + 1) _ _ (by omega) (hK.tr (cK.set _ (by decide))) (h.age (b := b) _ hmr.1) hQ
theorem o_pass (hG : 56 ≤ G) (hd : 1 ≤ d) {M0 M : wS} {nb nt tc z bo r : Nat} (h : RR M0 M nb nt tc z bo r) : Ctr l D cy ad G d yX10_pass cX10_pass 2 (some .int) [.ref (ad 30 0)] M (rI fun x M' => RO (kPass M0 nb) M x M') := by
  have hb7 := h.1.1.2
  have hw := h.2.2.2.1.2.1.2.1
  have hy := h.2.2.2.2.1.1
  have hyr := m99_r h.2.1.2.2.1
  obtain ⟨wk, hwk, ew⟩ := what_lt (n := 51) h.2.1.2.1 (by decide)
  rw [ew] at hw
  have fin : ∀ (MA M' : wS) (x : Int32), MA = kPass0 M0 → x = (pLoop 0 nb MA).1 26 0 4 → cK M M' → RR (pLoop 0 nb MA) M' nb nt tc z bo r → RO (kPass M0 nb) M x M' := by
    intro MA M' x h1 h2 h3 h4
    subst h1
    refine ⟨?_, h3, h4.keep⟩
    rw [h2]
    show _ = (kPass0 M0).1 26 0 4
    have : ∀ (n b : Nat) (X : wS), (pLoop b n X).1 26 0 = X.1 26 0 := by
      intro n
      induction n with
      | zero => intro b X; rfl
      | succ n ih =>
        intro b X
        unfold pLoop
        rw [ih, pStep_oth X b (by decide)]
    rw [this]
  by_cases e : wk + 1 < 52
  · have e1 : kPass0 M0 = mset M0 26 0 4 (nI (wk + 1)) := by
      rw [kPass0, ew, nI_1, if_pos (show nI (wk + 1) < 52 from nI_lt (b := 52) e (by decide))]
    have h1 := h.week (v := nI (wk + 1)) ⟨nI_pos' (by omega), nI_le (b := 51) (by omega) (by decide)⟩
    refine Ctr.of (lv0 := [(0, _)]) (by decide) (Nat.le_of_ble_eq_true rfl) rfl ?_
    intro p e s m args below meth c C hr hlk _
    have C : CX p s m args c cX10_pass 2 "CostsAgeModel" D cy ad G (wA ad G) (Rm d) d 0 0 := C
    refine V_aload_n (pc := 0) C 0 dX10_pass_0 rfl rfl ?_
    refine V_dup (pc := 1) C dX10_pass_1 rfl ?_
    refine get_X10_141 (pc := 2) C (wg hG (by decide) (by decide)) dX10_pass_2 ?_
    refine V_iconst (v := 1) (pc := 5) C dX10_pass_5 (by decide) ?_
    refine V_iadd (pc := 6) C dX10_pass_6 ?_
    refine put_X10_141 (pc := 7) C (wg hG (by decide) (by decide)) dX10_pass_7 ?_
    rw [hw, nI_1]
    refine V_aload_n (pc := 10) C 0 dX10_pass_10 rfl rfl ?_
    refine get_X10_141 (pc := 11) C (wg hG (by decide) (by decide)) dX10_pass_11 ?_
    refine V_bipush (v := 52) (pc := 14) C dX10_pass_14 (by decide) ?_
    rw [show (mset M 30 0 18 (nI (wk + 1))).1 30 0 18 = nI (wk + 1) by rw [mset_at, if_pos ⟨rfl, rfl, rfl⟩]]
    refine V_icmp_ne (tgt := 48) (pc := 16) C dX10_pass_16 (by decide) (fun h_16 => ?_) (fun h_16 => ?_)
    · refine V_iconst (v := 0) (pc := 48) C dX10_pass_48 (by decide) ?_
      refine Vs_istore_n (lv' := [(0, _), (1, _)]) (pc := 49) C dX10_pass_49 rfl (by decide) rfl rfl ?_
      exact lp_X10_pass C hr hlk hG hb7 _ nb 0 _ _ (by omega) (cK.set _ (by decide)) h1 (fun M' g1 g2 => fin _ M' _ e1.symm rfl g1 g2)
    · exact absurd ((nI_eq (b := 52) (by omega) (by decide)).mp h_16) (by omega)
  · have e1 : kPass0 M0 = mset (mset M0 26 0 4 0) 26 0 5 (m99 (M0.1 26 0 5)) := by
      rw [kPass0, ew, nI_1, if_neg (show ¬ nI (wk + 1) < 52 from nI_nlt (a := wk + 1) (b := 52) (by omega) (by omega)), mset_mset]
    have h1 := (h.week (v := 0) (by decide)).year (v := m99 (M0.1 26 0 5)) hyr.1
    refine Ctr.of (lv0 := [(0, _)]) (by decide) (Nat.le_of_ble_eq_true rfl) rfl ?_
    intro p e s m args below meth c C hr hlk _
    have C : CX p s m args c cX10_pass 2 "CostsAgeModel" D cy ad G (wA ad G) (Rm d) d 0 0 := C
    refine V_aload_n (pc := 0) C 0 dX10_pass_0 rfl rfl ?_
    refine V_dup (pc := 1) C dX10_pass_1 rfl ?_
    refine get_X10_141 (pc := 2) C (wg hG (by decide) (by decide)) dX10_pass_2 ?_
    refine V_iconst (v := 1) (pc := 5) C dX10_pass_5 (by decide) ?_
    refine V_iadd (pc := 6) C dX10_pass_6 ?_
    refine put_X10_141 (pc := 7) C (wg hG (by decide) (by decide)) dX10_pass_7 ?_
    rw [hw, nI_1]
    refine V_aload_n (pc := 10) C 0 dX10_pass_10 rfl rfl ?_
    refine get_X10_141 (pc := 11) C (wg hG (by decide) (by decide)) dX10_pass_11 ?_
    refine V_bipush (v := 52) (pc := 14) C dX10_pass_14 (by decide) ?_
    rw [show (mset M 30 0 18 (nI (wk + 1))).1 30 0 18 = nI (wk + 1) by rw [mset_at, if_pos ⟨rfl, rfl, rfl⟩]]
    refine V_icmp_ne (tgt := 48) (pc := 16) C dX10_pass_16 (by decide) (fun h_16 => ?_) (fun h_16 => ?_)
    · exact absurd (by rw [show wk + 1 = 52 by omega]; rfl) h_16
    · refine V_aload_n (pc := 19) C 0 dX10_pass_19 rfl rfl ?_
      refine V_iconst (v := 0) (pc := 20) C dX10_pass_20 (by decide) ?_
      refine put_X10_141 (pc := 21) C (wg hG (by decide) (by decide)) dX10_pass_21 ?_
      rw [mset_mset]
      refine V_aload_n (pc := 24) C 0 dX10_pass_24 rfl rfl ?_
      refine V_aload_n (pc := 25) C 0 dX10_pass_25 rfl rfl ?_
      refine get_X10_315 (pc := 26) C (wg hG (by decide) (by decide)) dX10_pass_26 ?_
      refine V_bipush (v := 99) (pc := 29) C dX10_pass_29 (by decide) ?_
      rw [show (mset M 30 0 18 0).1 30 0 19 = M0.1 26 0 5 by rw [mset_at, if_neg (by omega)]; exact hy]
      refine V_icmp_ge (tgt := 43) (pc := 31) C dX10_pass_31 (by decide) (fun h_31 => ?_) (fun h_31 => ?_)
      · refine V_bipush (v := 99) (pc := 43) C dX10_pass_43 (by decide) ?_
        first | rw [← hyr.2.1 (Int32.not_le.mp h_31)] | rw [← (hyr.2.2 (Int32.not_lt.mpr h_31)).1]
        refine put_X10_315 (pc := 45) C (wg hG (by decide) (by decide)) dX10_pass_45 ?_
        refine V_iconst (v := 0) (pc := 48) C dX10_pass_48 (by decide) ?_
        refine Vs_istore_n (lv' := [(0, _), (1, _)]) (pc := 49) C dX10_pass_49 rfl (by decide) rfl rfl ?_
        exact lp_X10_pass C hr hlk hG hb7 _ nb 0 _ _ (by omega) ((cK.set _ (by decide)).tr (cK.set _ (by decide))) h1 (fun M' g1 g2 => fin _ M' _ e1.symm rfl g1 g2)
      · refine V_aload_n (pc := 34) C 0 dX10_pass_34 rfl rfl ?_
        refine get_X10_315 (pc := 35) C (wg hG (by decide) (by decide)) dX10_pass_35 ?_
        refine V_iconst (v := 1) (pc := 38) C dX10_pass_38 (by decide) ?_
        rw [show (mset M 30 0 18 0).1 30 0 19 = M0.1 26 0 5 by rw [mset_at, if_neg (by omega)]; exact hy]
        refine V_iadd (pc := 39) C dX10_pass_39 ?_
        refine V_goto (tgt := 45) (pc := 40) C dX10_pass_40 (by decide) ?_
        first | rw [← hyr.2.1 (Int32.not_le.mp h_31)] | rw [← (hyr.2.2 (Int32.not_lt.mpr h_31)).1]
        refine put_X10_315 (pc := 45) C (wg hG (by decide) (by decide)) dX10_pass_45 ?_
        refine V_iconst (v := 0) (pc := 48) C dX10_pass_48 (by decide) ?_
        refine Vs_istore_n (lv' := [(0, _), (1, _)]) (pc := 49) C dX10_pass_49 rfl (by decide) rfl rfl ?_
        exact lp_X10_pass C hr hlk hG hb7 _ nb 0 _ _ (by omega) ((cK.set _ (by decide)).tr (cK.set _ (by decide))) h1 (fun M' g1 g2 => fin _ M' _ e1.symm rfl g1 g2)
theorem zero_shl (b : Nat) : (0 : Int32) <<< (nI b &&& 31) = 0 := by
  apply Int32.toBitVec_inj.mp
  rw [Int32.toBitVec_shiftLeft]
  simp
theorem lp_X10_lies {p : Program} {e : Env} {s : State} {m : MethodId} {args : Array Value} {below : List Frame} {meth : Method} {c : Code} (C : CX p s m args c cX10_lies 4 "CostsAgeModel" D cy ad G (wA ad G) (Rm d) d 0 0) (hr : meth.sig.returnType = (some .int)) (hlk : meth.locks = false) (hG : 56 ≤ G) {M : wS} {nb k sz : Nat} {cs ys : Nat → Int32} (hb7 : nb ≤ 7) (hk : k < 4) (hm : M.1 30 0 12 = nI nb) (hi : ∀ j, j < nb → M.1 55 0 (40 * k + j) = cs j) (hy : ∀ j, j < nb → M.1 36 0 j = ys j) (Qf : Int32 → wS → Prop) : ∀ (n b : Nat) (s0 : Int32), b + n = nb → Qf (lRun cs ys b n s0) M → V p l e (Rm d) s m args below meth c 4 D cy ad G (wA ad G) 0 0 (MQ below (wQ D cy ad G (rI Qf)) args s 0 0 (wA ad G)) 42 [(0, .ref (ad 30 0)), (1, .int (nI k)), (2, .int s0), (3, .int (nI b))] [] M := by
  intro n
  induction n with
  | zero =>
    intro b s0 hb hQ
    obtain rfl : b = nb := by omega
    refine V_iload_n (pc := 42) C 3 dX10_lies_42 rfl rfl ?_
    refine V_aload_n (pc := 43) C 0 dX10_lies_43 rfl rfl ?_
    refine get_X10_103 (pc := 44) C (wg hG (by decide) (by decide)) dX10_lies_44 ?_
    refine V_icmp_ge (tgt := 86) (pc := 47) C dX10_lies_47 (by decide) (fun h_47 => ?_) (fun h_47 => ?_)
    · refine V_iload_n (pc := 86) C 2 dX10_lies_86 rfl rfl ?_
      refine V_iret (pc := 87) C hr hlk dX10_lies_87 ⟨_, rfl, ?_⟩
      exact hQ
    · rw [hm] at h_47
      exact absurd (nI_le (Nat.le_refl _) (by omega)) h_47
  | succ n ih =>
    intro b s0 hb hQ
    have e1 := hi b (by omega)
    have e2 := hy b (by omega)
    unfold lRun at hQ
    refine V_iload_n (pc := 42) C 3 dX10_lies_42 rfl rfl ?_
    refine V_aload_n (pc := 43) C 0 dX10_lies_43 rfl rfl ?_
    refine get_X10_103 (pc := 44) C (wg hG (by decide) (by decide)) dX10_lies_44 ?_
    refine V_icmp_ge (tgt := 86) (pc := 47) C dX10_lies_47 (by decide) (fun h_47 => ?_) (fun h_47 => ?_)
    · rw [hm] at h_47
      exact absurd h_47 (nI_ge (by omega) (by omega))
    · refine V_iload_n (pc := 50) C 2 dX10_lies_50 rfl rfl ?_
      refine V_aload_n (pc := 51) C 0 dX10_lies_51 rfl rfl ?_
      refine get_X10_93 (pc := 52) C (wg hG (by decide) (by decide)) dX10_lies_52 ?_
      refine V_bipush (v := 40) (pc := 55) C dX10_lies_55 (by decide) ?_
      refine V_iload_n (pc := 57) C 1 dX10_lies_57 rfl rfl ?_
      refine V_imul (pc := 58) C dX10_lies_58 ?_
      refine V_iload_n (pc := 59) C 3 dX10_lies_59 rfl rfl ?_
      refine V_iadd (pc := 60) C dX10_lies_60 ?_
      refine V_iald (pc := 61) C (40 * k + b) (by rw [show (40 : Int32) = nI 40 from rfl, pk_mul, nI_add]) (by omega) (Nat.le_of_ble_eq_true rfl) (wg hG (by decide) (by decide)) wF_55 dX10_lies_61 ?_
      refine V_aload_n (pc := 62) C 0 dX10_lies_62 rfl rfl ?_
      refine get_X10_29 (pc := 63) C (wg hG (by decide) (by decide)) dX10_lies_63 ?_
      refine V_iload_n (pc := 66) C 3 dX10_lies_66 rfl rfl ?_
      refine V_iald (pc := 67) C (b) rfl (by omega) (Nat.le_of_ble_eq_true rfl) (wg hG (by decide) (by decide)) wF_36 dX10_lies_67 ?_
      rw [e1, e2]
      refine V_icmp_ne (tgt := 75) (pc := 68) C dX10_lies_68 (by decide) (fun h_68 => ?_) (fun h_68 => ?_)
      · rw [if_neg h_68] at hQ
        refine V_iconst (v := 1) (pc := 75) C dX10_lies_75 (by decide) ?_
        refine V_iload_n (pc := 76) C 3 dX10_lies_76 rfl rfl ?_
        refine V_ishl (pc := 77) C dX10_lies_77 ?_
        refine V_ior (pc := 78) C dX10_lies_78 ?_
        refine Vs_istore_n (lv' := [(0, _), (1, _), (2, _), (3, _)]) (pc := 79) C dX10_lies_79 rfl (by decide) rfl rfl ?_
        refine Vs_iinc (v := nI (b + 1)) (lv' := [(0, _), (1, _), (2, _), (3, _)]) (pc := 80) C 3 dX10_lies_80 rfl (by decide) rfl (nI_i1 (b)) rfl ?_
        refine V_goto (tgt := 42) (pc := 83) C dX10_lies_83 (by decide) ?_
        exact ih (b + 1) _ (by omega) hQ
      · rw [if_pos h_68, ← zero_shl b] at hQ
        refine V_iconst (v := 0) (pc := 71) C dX10_lies_71 (by decide) ?_
        refine V_goto (tgt := 76) (pc := 72) C dX10_lies_72 (by decide) ?_
        refine V_iload_n (pc := 76) C 3 dX10_lies_76 rfl rfl ?_
        refine V_ishl (pc := 77) C dX10_lies_77 ?_
        refine V_ior (pc := 78) C dX10_lies_78 ?_
        refine Vs_istore_n (lv' := [(0, _), (1, _), (2, _), (3, _)]) (pc := 79) C dX10_lies_79 rfl (by decide) rfl rfl ?_
        refine Vs_iinc (v := nI (b + 1)) (lv' := [(0, _), (1, _), (2, _), (3, _)]) (pc := 80) C 3 dX10_lies_80 rfl (by decide) rfl (nI_i1 (b)) rfl ?_
        refine V_goto (tgt := 42) (pc := 83) C dX10_lies_83 (by decide) ?_
        exact ih (b + 1) _ (by omega) hQ
theorem o_lies (hG : 56 ≤ G) (hd : 2 ≤ d) {M0 M : wS} {nb nt tc z bo r : Nat} (h : RR M0 M nb nt tc z bo r) (s0 : Int32) : Ctr l D cy ad G d yX10_lies cX10_lies 4 (some .int) [.ref (ad 30 0), .int s0] M (rI fun x M' => RO (kLies M0 nb s0, M0) M x M') := by
  obtain ⟨c1, c2, c3, c4, c5, c6, c7, c8, -⟩ := id h
  have hb7 := c1.1.2
  refine Ctr.of (lv0 := [(0, _), (1, _)]) (by decide) (Nat.le_of_ble_eq_true rfl) rfl ?_
  intro p e s m args below meth c C hr hlk _
  have C : CX p s m args c cX10_lies 4 "CostsAgeModel" D cy ad G (wA ad G) (Rm d) d 0 0 := C
  refine V_iload_n (pc := 0) C 1 dX10_lies_0 rfl rfl ?_
  refine call_X10_326 (pc := 1) C (c_X10_isSheet (d := d - 1) hG (by omega) M s0) (by omega) (Nat.le_of_ble_eq_true rfl) dX10_lies_1 (fun x_1 M_1 h_1 => ?_)
  obtain ⟨e_1, rfl⟩ := h_1
  have e_1 := e_1.symm
  subst e_1
  refine V_if_ne (tgt := 10) (pc := 4) C dX10_lies_4 (by decide) (fun h_4 => ?_) (fun h_4 => ?_)
  · have h_4 := bJ_1.mp h_4
    obtain ⟨k, hk, rfl⟩ := ix_of (n := 4) h_4.1 h_4.2 (by decide)
    obtain ⟨sz, s1, s2, s3, s4⟩ := c8 k hk
    have hkl : kLies M0 nb (nI k) = (if M0.1 9 k 1 = -1 then -11 else if nI sz = nI nb then lRun (M0.1 10 k) (M0.1 27 0) 0 nb 0 else -2) := by rw [kLies, if_pos h_4, nI_clamp (by omega), s2]
    refine V_aload_n (pc := 10) C 0 dX10_lies_10 rfl rfl ?_
    refine get_X10_83 (pc := 11) C (wg hG (by decide) (by decide)) dX10_lies_11 ?_
    refine V_iload_n (pc := 14) C 1 dX10_lies_14 rfl rfl ?_
    refine V_zald (pc := 15) C (k) rfl hk (Nat.le_of_ble_eq_true rfl) (wg hG (by decide) (by decide)) wF_52 dX10_lies_15 ?_
    rw [s3]
    refine V_if_ne (tgt := 22) (pc := 16) C dX10_lies_16 (by decide) (fun h_16 => ?_) (fun h_16 => ?_)
    · have hpr : ¬ M0.1 9 k 1 = -1 := fun e => h_16 (by rw [← bI_f (fun y => y e)])
      obtain ⟨-, -, s6, s7⟩ := s4 hpr
      rw [if_neg hpr] at hkl
      refine V_aload_n (pc := 22) C 0 dX10_lies_22 rfl rfl ?_
      refine get_X10_90 (pc := 23) C (wg hG (by decide) (by decide)) dX10_lies_23 ?_
      refine V_iload_n (pc := 26) C 1 dX10_lies_26 rfl rfl ?_
      refine V_iald (pc := 27) C (k) rfl hk (Nat.le_of_ble_eq_true rfl) (wg hG (by decide) (by decide)) wF_54 dX10_lies_27 ?_
      refine V_aload_n (pc := 28) C 0 dX10_lies_28 rfl rfl ?_
      refine get_X10_103 (pc := 29) C (wg hG (by decide) (by decide)) dX10_lies_29 ?_
      rw [s6, c4.1.1]
      refine V_icmp_eq (tgt := 38) (pc := 32) C dX10_lies_32 (by decide) (fun h_32 => ?_) (fun h_32 => ?_)
      · rw [if_pos h_32] at hkl
        have hsz := (nI_eq (by omega) (by omega)).mp h_32
        refine V_iconst (v := 0) (pc := 38) C dX10_lies_38 (by decide) ?_
        refine Vs_istore_n (lv' := [(0, _), (1, _), (2, _)]) (pc := 39) C dX10_lies_39 rfl (by decide) rfl rfl ?_
        refine V_iconst (v := 0) (pc := 40) C dX10_lies_40 (by decide) ?_
        refine Vs_istore_n (lv' := [(0, _), (1, _), (2, _), (3, _)]) (pc := 41) C dX10_lies_41 rfl (by decide) rfl rfl ?_
        exact lp_X10_lies (sz := sz) C hr hlk hG hb7 hk c4.1.1 (fun j hj => s7 j (by omega)) (fun j hj => (c4.2.2 j (by omega)).1.2.2.1) _ nb 0 0 (by omega) ⟨hkl.symm, cK.rf, h.keep⟩
      · rw [if_neg h_32] at hkl
        refine V_bipush (v := -2) (pc := 35) C dX10_lies_35 (by decide) ?_
        refine V_iret (pc := 37) C hr hlk dX10_lies_37 ⟨_, rfl, ?_⟩
        exact ⟨hkl.symm, cK.rf, h.keep⟩
    · have hpr : M0.1 9 k 1 = -1 := Decidable.byContradiction (fun e => absurd ((bI_t e).trans h_16) (by decide))
      rw [if_pos hpr] at hkl
      refine V_bipush (v := -11) (pc := 19) C dX10_lies_19 (by decide) ?_
      refine V_iret (pc := 21) C hr hlk dX10_lies_21 ⟨_, rfl, ?_⟩
      exact ⟨hkl.symm, cK.rf, h.keep⟩
  · have h_4 := bJ_0.mp h_4
    refine V_bipush (v := -2) (pc := 7) C dX10_lies_7 (by decide) ?_
    refine V_iret (pc := 9) C hr hlk dX10_lies_9 ⟨_, rfl, ?_⟩
    exact ⟨by simp only []; rw [kLies, if_neg h_4], cK.rf, h.keep⟩
end S78
