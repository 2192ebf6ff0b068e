/-- what a new TEXT leaves of the class's memory -/
def kText (M : wS) (tc z : Nat) (x : Int32) (M' : wS) : Prop := (tc = 6 ∧ x = -4 ∧ M' = M) ∨ (tc < 6 ∧ kTextL M tc (gFl (M.1 12 0) z cA) (cC1 (M.1 12 0) z) (cC2 (M.1 12 0) z) (cC3 (M.1 12 0) z) x M')
/-- the class's half of the relation behind a TEXT that came, or did not -/
theorem RR.text {M0 M M1 M' : wS} {nb nt tc z bo r : Nat} (h : RR M0 M nb nt tc z bo r) (hc : tc < 6) {c1 c2 c3 : List Int32} (hO : cOutL tc M0 M1 c1 c2 c3) (g1 : ∀ g i k, 30 ≤ g → ¬ (g = 31 ∧ 160 * tc ≤ k ∧ k < 160 * tc + 160) → ¬ (g = 32 ∧ k = tc) → ¬ (g = 30 ∧ ¬ (i = 0 ∧ (k < 22 ∨ 38 < k))) → ¬ (g = 30 ∧ i = 0 ∧ k = 6) → M'.1 g i k = M.1 g i k) (g2 : M'.1 30 0 6 = 0) : RR M1 M' nb nt tc 0 bo r := by
  obtain ⟨c1', c2', c3', c4, c5, c6, c7, c8, c9, c10⟩ := h
  obtain ⟨⟨k1, k2⟩, k3, -⟩ := hO
  refine ⟨c1'.fr (fun g i k e => ?_) (fun g i k e => g1 g i k (by omega) (by omega) (by omega) (by omega) (by omega)), c2'.fr (fun g i k e => ?_), c3'.fr (fun g i k e => ?_), c4.fr (fun g i k e => ?_) (fun g i k e => g1 g i k (by omega) (by omega) (by omega) (by omega) (by omega)), c5.fr (fun g i k e => ?_) (fun g i k e => g1 g i k (by omega) (by omega) (by omega) (by omega) (by omega)), ⟨k3, by omega, g2, fun k hk => absurd hk (Nat.not_lt_zero k)⟩, fun t ht => (c7 t ht).fr (fun g i k e => ?_) (fun g i k e => g1 g i k (by omega) (by omega) (by omega) (by omega) (by omega)), c8.fr (fun g i k e => ?_) (fun g i k e => g1 g i k (by omega) (by omega) (by omega) (by omega) (by omega)), c9.fr (Nat.le_refl _) (Nat.le_refl _) (Nat.le_refl _) (fun g i k e => ?_) (fun g i k e => g1 g i k (by omega) (by omega) (by omega) (by omega) (by omega)), c10.fr (fun g i k e => ?_)⟩
  all_goals rw [k1 g i (by omega) (by omega) (by omega)]
/-- one TEXT more -/
theorem RR.more {M0 M : wS} {nb nt tc z bo r : Nat} (h : RR M0 M nb nt tc z bo r) (hc : tc < 6) (ht : tX M0 M tc) {M0' M' : wS} (k0 : M0' = mset M0 0 0 13 (nI (tc + 1))) (k1 : M' = mset M 30 0 3 (nI (tc + 1))) : RR M0' M' nb nt (tc + 1) z bo r := by
  subst k0 k1
  obtain ⟨c1, c2, c3, c4, c5, c6, c7, c8, c9, c10⟩ := h
  refine ⟨⟨⟨?_, c1.1.2⟩, ⟨?_, c1.2.1.2⟩, ⟨?_, by have := c1.2.2.1.2.1; omega, by omega⟩, ?_⟩, c2.fr (fun g i k e => by repeat rw [mset_at, if_neg (by omega)]), c3.fr (fun g i k e => by repeat rw [mset_at, if_neg (by omega)]), c4.fr (fun g i k e => by repeat rw [mset_at, if_neg (by omega)]) (fun g i k e => by repeat rw [mset_at, if_neg (by omega)]), c5.fr (fun g i k e => by repeat rw [mset_at, if_neg (by omega)]) (fun g i k e => by repeat rw [mset_at, if_neg (by omega)]), c6.fr (fun g i k e => by repeat rw [mset_at, if_neg (by omega)]) (fun g i k e => by repeat rw [mset_at, if_neg (by omega)]), fun t h2 => ?_, c8.fr (fun g i k e => by repeat rw [mset_at, if_neg (by omega)]) (fun g i k e => by repeat rw [mset_at, if_neg (by omega)]), c9.fr (Nat.le_refl _) (Nat.le_refl _) (Nat.le_succ _) (fun g i k e => by repeat rw [mset_at, if_neg (by omega)]) (fun g i k e => by repeat rw [mset_at, if_neg (by omega)]), c10.fr (fun g i k e => by repeat rw [mset_at, if_neg (by omega)])⟩
  · rw [mset_at, if_neg (by omega)]; exact c1.1.1
  · rw [mset_at, if_neg (by omega)]; exact c1.2.1.1
  · rw [mset_at, if_pos ⟨rfl, rfl, rfl⟩]
  · rw [mset_at, if_pos ⟨rfl, rfl, rfl⟩]
  · refine tX.fr (fun g i k e => by repeat rw [mset_at, if_neg (by omega)]) (fun g i k e => by repeat rw [mset_at, if_neg (by omega)]) ?_
    by_cases e : t = tc
    · rw [e]; exact ht
    · exact c7 t (by omega)
section S88
variable {l : Launch} {D : va_G} {cy : Nat → ClassId} {ad : Nat → Nat → Nat} {G d : Nat}
theorem lq_X10_text {p : Program} {e : Env} {s : State} {m : MethodId} {args : Array Value} {below : List Frame} {meth : Method} {c : Code} (C : CX p s m args c cX10_text 2 "CostsAgeModel" D cy ad G (wA ad G) (Rm d) d 0 0) (hr : meth.sig.returnType = (some .int)) (hlk : meth.locks = false) (hG : 56 ≤ G) (hd : 42 ≤ d) {M0 M : wS} {nb nt tc z bo r : Nat} (h : RR M0 M nb nt tc z bo r) (hc : tc < 6) (x0 : Int32) (M0' : wS) (hK : kTextL M0 tc (gFl (M0.1 12 0) z cA) (cC1 (M0.1 12 0) z) (cC2 (M0.1 12 0) z) (cC3 (M0.1 12 0) z) x0 M0') (Mc : wS) (g1 : ∀ g i k, ¬ (g = 31 ∧ 160 * tc ≤ k ∧ k < 160 * tc + 160) → Mc.1 g i k = M.1 g i k) (g2 : ∀ k, k < z → Mc.1 31 0 (160 * tc + k) = M0.1 12 0 k) (v : Int32) (Qf : Int32 → wS → Prop) (hQf : ∀ x M', RO (x0, M0') M x M' → Qf x M') : V p l e (Rm d) s m args below meth c 2 D cy ad G (wA ad G) 0 0 (MQ below (wQ D cy ad G (rI Qf)) args s 0 0 (wA ad G)) 49 [(0, .ref (ad 30 0)), (1, .int v)] [] Mc := by
  have h0 := h
  obtain ⟨c1, c2, c3, c4, c5, c6, c7, c8, c9, c10⟩ := h
  have hz := c6.2.1
  have m3 : Mc.1 30 0 3 = nI tc := (g1 30 0 3 (by omega)).trans c1.2.2.2
  have m6 : Mc.1 30 0 6 = nI z := (g1 30 0 6 (by omega)).trans c6.2.2.1
  obtain ⟨M1, hO, hE⟩ := hK
  refine V_aload_n (pc := 49) C 0 dX10_text_49 rfl rfl ?_
  refine get_X10_17 (pc := 50) C (wg hG (by decide) (by decide)) dX10_text_50 ?_
  refine V_aload_n (pc := 53) C 0 dX10_text_53 rfl rfl ?_
  refine get_X10_100 (pc := 54) C (wg hG (by decide) (by decide)) dX10_text_54 ?_
  refine V_aload_n (pc := 57) C 0 dX10_text_57 rfl rfl ?_
  refine get_X10_154 (pc := 58) C (wg hG (by decide) (by decide)) dX10_text_58 ?_
  refine V_iast (pc := 61) C (tc) m3 hc (Nat.le_of_ble_eq_true rfl) (wg hG (by decide) (by decide)) (fun _ => wF_32) dX10_text_61 ?_
  rw [m6]
  refine V_aload_n (pc := 62) C 0 dX10_text_62 rfl rfl ?_
  refine V_iconst (v := 0) (pc := 63) C dX10_text_63 (by decide) ?_
  refine put_X10_154 (pc := 64) C (wg hG (by decide) (by decide)) dX10_text_64 ?_
  have q31 : ∀ k, k < z → (mset (mset Mc 32 0 tc (nI z)) 30 0 6 0).1 31 0 (160 * tc + k) = M0.1 12 0 k := fun k hk => by
    rw [mset_at, if_neg (by omega), mset_at, if_neg (by omega)]
    exact g2 k hk
  have q32 : (mset (mset Mc 32 0 tc (nI z)) 30 0 6 0).1 32 0 tc = nI z := by
    rw [mset_at, if_neg (by omega), mset_at, if_pos ⟨rfl, rfl, rfl⟩]
  have q6 : (mset (mset Mc 32 0 tc (nI z)) 30 0 6 0).1 30 0 6 = 0 := by
    rw [mset_at, if_pos ⟨rfl, rfl, rfl⟩]
  have q3 : (mset (mset Mc 32 0 tc (nI z)) 30 0 6 0).1 30 0 3 = nI tc := by
    rw [mset_at, if_neg (by omega), mset_at, if_neg (by omega)]
    exact m3
  have qg : ∀ g i k, ¬ (g = 31 ∧ 160 * tc ≤ k ∧ k < 160 * tc + 160) → ¬ (g = 32 ∧ i = 0 ∧ k = tc) → ¬ (g = 30 ∧ i = 0 ∧ k = 6) → (mset (mset Mc 32 0 tc (nI z)) 30 0 6 0).1 g i k = M.1 g i k := fun g i k a b c => by
    rw [mset_at, if_neg (by omega), mset_at, if_neg (by omega)]
    exact g1 g i k a
  generalize mset (mset Mc 32 0 tc (nI z)) 30 0 6 0 = M2 at q31 q32 q6 q3 qg ⊢
  refine V_aload_n (pc := 67) C 0 dX10_text_67 rfl rfl ?_
  refine V_aload_n (pc := 68) C 0 dX10_text_68 rfl rfl ?_
  refine get_X10_100 (pc := 69) C (wg hG (by decide) (by decide)) dX10_text_69 ?_
  refine V_iconst (v := 0) (pc := 72) C dX10_text_72 (by decide) ?_
  rw [q3]
  refine call_X10_266 (pc := 73) C (c_X10_read (d := d - 1) hG (by omega) hc M2 q32 hz q31 (fun k hk => (c6.2.2.2 k hk).2) (e0 := fun j => M2.1 30 0 (22 + j)) (fun j _ => rfl) 0) (by omega) (wg hG (by decide) (by decide)) (Nat.le_of_ble_eq_true rfl) dX10_text_73 (fun x_73 M_73 h_73 => ?_)
  obtain ⟨w1, w2, w3, w4⟩ := h_73
  have hT : RR M1 M_73 nb nt tc 0 bo r := h0.text hc hO (fun g i k a b c e f => by
    by_cases y : g = 30
    · subst y
      obtain ⟨rfl, e2⟩ : i = 0 ∧ (k < 22 ∨ 38 < k) := Decidable.byContradiction (fun y => e ⟨rfl, y⟩)
      rw [w1.2 k (by omega)]
      exact qg 30 0 k (by omega) (by omega) (by omega)
    · rw [w1.1 g i y]
      exact qg g i k (by omega) (by omega) (by omega)) (by rw [w1.2 6 (by omega)]; exact q6)
  have hcK : cK M M_73 := fun g i e => by
    rw [w1.1 g i (by omega)]
    funext k
    exact qg g i k (by omega) (by omega) (by omega)
  refine Vs_istore_n (lv' := [(0, _), (1, _)]) (pc := 76) C dX10_text_76 rfl (by decide) rfl rfl ?_
  refine V_aload_n (pc := 77) C 0 dX10_text_77 rfl rfl ?_
  refine get_X10_187 (pc := 78) C (wg hG (by decide) (by decide)) dX10_text_78 ?_
  refine V_if_eq (tgt := 92) (pc := 81) C dX10_text_81 (by decide) (fun h_81 => ?_) (fun h_81 => ?_)
  · have hF := w2.mp h_81
    rcases hE with ⟨e1, e2, e3⟩ | ⟨e1, -⟩
    rotate_left
    · exact absurd hF e1
    have hX : tX M1 M_73 tc := by
      refine ⟨_, _, _, ⟨hO.2.2.1, hO.2.2.2.1, hO.2.2.2.2.1⟩, z, M0.1 12 0, ?_, hz, fun k hk => ?_, fun k hk => (c6.2.2.2 k hk).2, hF, rfl, rfl, rfl, hO.2.2.2.2.2⟩
      · rw [w1.1 32 0 (by decide)]; exact q32
      · rw [w1.1 31 0 (by decide)]; exact q31 k hk
    have m3' : M_73.1 30 0 3 = nI tc := (w1.2 3 (by omega)).trans q3
    refine V_aload_n (pc := 92) C 0 dX10_text_92 rfl rfl ?_
    refine V_dup (pc := 93) C dX10_text_93 rfl ?_
    refine get_X10_100 (pc := 94) C (wg hG (by decide) (by decide)) dX10_text_94 ?_
    refine V_iconst (v := 1) (pc := 97) C dX10_text_97 (by decide) ?_
    refine V_iadd (pc := 98) C dX10_text_98 ?_
    refine put_X10_100 (pc := 99) C (wg hG (by decide) (by decide)) dX10_text_99 ?_
    rw [m3', nI_1]
    refine V_aload_n (pc := 102) C 0 dX10_text_102 rfl rfl ?_
    refine get_X10_100 (pc := 103) C (wg hG (by decide) (by decide)) dX10_text_103 ?_
    refine V_iconst (v := 1) (pc := 106) C dX10_text_106 (by decide) ?_
    refine V_isub (pc := 107) C dX10_text_107 ?_
    refine V_iret (pc := 108) C hr hlk dX10_text_108 ⟨_, rfl, ?_⟩
    refine hQf _ _ ⟨?_, hcK.tr (cK.set _ (by decide)), nb, nt, tc + 1, 0, bo, r, hT.more hc hX e3 rfl⟩
    rw [mset_at, if_pos ⟨rfl, rfl, rfl⟩, nI_pred]
    exact e2.symm
  · have hF : ¬ gFl (M0.1 12 0) z cA = -1 := fun e => h_81 (w2.mpr e)
    rcases hE with ⟨e1, -⟩ | ⟨e1, e2, e3⟩
    · exact absurd e1 hF
    refine V_bipush (v := -100) (pc := 84) C dX10_text_84 (by decide) ?_
    refine V_aload_n (pc := 86) C 0 dX10_text_86 rfl rfl ?_
    refine get_X10_191 (pc := 87) C (wg hG (by decide) (by decide)) dX10_text_87 ?_
    refine V_isub (pc := 90) C dX10_text_90 ?_
    refine V_iret (pc := 91) C hr hlk dX10_text_91 ⟨_, rfl, ?_⟩
    refine hQf _ _ ⟨?_, hcK, nb, nt, tc, 0, bo, r, by rw [e3]; exact hT⟩
    rw [w3 hF]
    exact e2.symm
theorem lp_X10_text {p : Program} {e : Env} {s : State} {m : MethodId} {args : Array Value} {below : List Frame} {meth : Method} {c : Code} (C : CX p s m args c cX10_text 2 "CostsAgeModel" D cy ad G (wA ad G) (Rm d) d 0 0) (hr : meth.sig.returnType = (some .int)) (hlk : meth.locks = false) (hG : 56 ≤ G) (hd : 42 ≤ d) {M0 M : wS} {nb nt tc z bo r : Nat} (h : RR M0 M nb nt tc z bo r) (hc : tc < 6) (x0 : Int32) (M0' : wS) (hK : kTextL M0 tc (gFl (M0.1 12 0) z cA) (cC1 (M0.1 12 0) z) (cC2 (M0.1 12 0) z) (cC3 (M0.1 12 0) z) x0 M0') (Qf : Int32 → wS → Prop) (hQf : ∀ x M', RO (x0, M0') M x M' → Qf x M') : ∀ (n t : Nat) (Mc : wS), t + n = z → (∀ g i k, ¬ (g = 31 ∧ 160 * tc ≤ k ∧ k < 160 * tc + 160) → Mc.1 g i k = M.1 g i k) → (∀ k, k < t → Mc.1 31 0 (160 * tc + k) = M0.1 12 0 k) → V p l e (Rm d) s m args below meth c 2 D cy ad G (wA ad G) 0 0 (MQ below (wQ D cy ad G (rI Qf)) args s 0 0 (wA ad G)) 14 [(0, .ref (ad 30 0)), (1, .int (nI t))] [] Mc := by
  have hz := h.2.2.2.2.2.1.2.1
  have c6 := h.2.2.2.2.2.1
  have c1 := h.1
  intro n
  induction n with
  | zero =>
    intro t Mc ht g1 g2
    have m6 : Mc.1 30 0 6 = nI z := (g1 30 0 6 (by omega)).trans c6.2.2.1
    refine V_iload_n (pc := 14) C 1 dX10_text_14 rfl rfl ?_
    refine V_aload_n (pc := 15) C 0 dX10_text_15 rfl rfl ?_
    refine get_X10_154 (pc := 16) C (wg hG (by decide) (by decide)) dX10_text_16 ?_
    refine V_icmp_ge (tgt := 49) (pc := 19) C dX10_text_19 (by decide) (fun h_19 => ?_) (fun h_19 => ?_)
    · skip
      exact lq_X10_text C hr hlk hG hd h hc x0 M0' hK Mc g1 (fun k hk => g2 k (by omega)) _ Qf hQf
    · rw [m6] at h_19
      exact absurd (nI_le (by omega) (by omega)) h_19
  | succ n ih =>
    intro t Mc ht g1 g2
    have m6 : Mc.1 30 0 6 = nI z := (g1 30 0 6 (by omega)).trans c6.2.2.1
    have m3 : Mc.1 30 0 3 = nI tc := (g1 30 0 3 (by omega)).trans c1.2.2.2
    have mt : Mc.1 33 0 t = M0.1 12 0 t := (g1 33 0 t (by omega)).trans (c6.2.2.2 t (by omega)).1
    refine V_iload_n (pc := 14) C 1 dX10_text_14 rfl rfl ?_
    refine V_aload_n (pc := 15) C 0 dX10_text_15 rfl rfl ?_
    refine get_X10_154 (pc := 16) C (wg hG (by decide) (by decide)) dX10_text_16 ?_
    refine V_icmp_ge (tgt := 49) (pc := 19) C dX10_text_19 (by decide) (fun h_19 => ?_) (fun h_19 => ?_)
    · rw [m6] at h_19
      exact absurd h_19 (nI_ge (by omega) (by omega))
    · refine V_aload_n (pc := 22) C 0 dX10_text_22 rfl rfl ?_
      refine get_X10_13 (pc := 23) C (wg hG (by decide) (by decide)) dX10_text_23 ?_
      refine V_sipush (v := 160) (pc := 26) C dX10_text_26 (by decide) ?_
      refine V_aload_n (pc := 29) C 0 dX10_text_29 rfl rfl ?_
      refine get_X10_100 (pc := 30) C (wg hG (by decide) (by decide)) dX10_text_30 ?_
      refine V_imul (pc := 33) C dX10_text_33 ?_
      refine V_iload_n (pc := 34) C 1 dX10_text_34 rfl rfl ?_
      refine V_iadd (pc := 35) C dX10_text_35 ?_
      refine V_aload_n (pc := 36) C 0 dX10_text_36 rfl rfl ?_
      refine get_X10_20 (pc := 37) C (wg hG (by decide) (by decide)) dX10_text_37 ?_
      refine V_iload_n (pc := 40) C 1 dX10_text_40 rfl rfl ?_
      refine V_iald (pc := 41) C (t) rfl (by omega) (Nat.le_of_ble_eq_true rfl) (wg hG (by decide) (by decide)) wF_33 dX10_text_41 ?_
      rw [mt]
      refine V_iast (pc := 42) C (160 * tc + t) (by rw [m3, mul160, nI_add]) (by omega) (Nat.le_of_ble_eq_true rfl) (wg hG (by decide) (by decide)) (fun _ => wF_31) dX10_text_42 ?_
      refine Vs_iinc (v := nI (t + 1)) (lv' := [(0, _), (1, _)]) (pc := 43) C 1 dX10_text_43 rfl (by decide) rfl (nI_i1 (t)) rfl ?_
      refine V_goto (tgt := 14) (pc := 46) C dX10_text_46 (by decide) ?_
      refine ih (t + 1) _ (by omega) (fun g i k a => ?_) (fun k hk => ?_)
      · rw [mset_at, if_neg (by omega)]; exact g1 g i k a
      · rw [mset_at]
        by_cases e : k = t
        · rw [if_pos ⟨rfl, rfl, by omega⟩, e]
        · rw [if_neg (by omega)]; exact g2 k (by omega)
theorem o_text (hG : 56 ≤ G) (hd : 42 ≤ d) {M0 M : wS} {nb nt tc z bo r : Nat} (h : RR M0 M nb nt tc z bo r) {x0 : Int32} {M0' : wS} (hK : kText M0 tc z x0 M0') : Ctr l D cy ad G d yX10_text cX10_text 2 (some .int) [.ref (ad 30 0)] M (rI fun x M' => RO (x0, M0') M x M') := by
  have c1 := h.1
  have m3 := c1.2.2.2
  refine Ctr.of (lv0 := [(0, _)]) (by decide) (Nat.le_of_ble_eq_true rfl) rfl ?_
  intro p e s m args below meth c C hr hlk _
  have C : CX p s m args c cX10_text 2 "CostsAgeModel" D cy ad G (wA ad G) (Rm d) d 0 0 := C
  refine V_aload_n (pc := 0) C 0 dX10_text_0 rfl rfl ?_
  refine get_X10_100 (pc := 1) C (wg hG (by decide) (by decide)) dX10_text_1 ?_
  refine V_bipush (v := 6) (pc := 4) C dX10_text_4 (by decide) ?_
  rw [m3]
  refine V_icmp_ne (tgt := 12) (pc := 6) C dX10_text_6 (by decide) (fun h_6 => ?_) (fun h_6 => ?_)
  · have hc : tc < 6 := Nat.lt_of_le_of_ne c1.2.2.1.2.2 (fun e => h_6 (by rw [e]; rfl))
    refine V_iconst (v := 0) (pc := 12) C dX10_text_12 (by decide) ?_
    refine Vs_istore_n (lv' := [(0, _), (1, _)]) (pc := 13) C dX10_text_13 rfl (by decide) rfl rfl ?_
    rcases hK with ⟨e1, -⟩ | ⟨-, hK⟩
    · exact absurd e1 (by omega)
    exact lp_X10_text C hr hlk hG hd h hc x0 M0' hK _ (fun _ _ g => g) z 0 M (by omega) (fun _ _ _ _ => rfl) (fun k hk => absurd hk (Nat.not_lt_zero k))
  · have hc : tc = 6 := (nI_eq (b := 6) (by have := c1.2.2.1.2.2; omega) (by decide)).mp h_6
    rcases hK with ⟨-, e2, e3⟩ | ⟨e1, -⟩
    rotate_left
    · exact absurd e1 (by omega)
    subst e2 e3
    refine V_bipush (v := -4) (pc := 9) C dX10_text_9 (by decide) ?_
    refine V_iret (pc := 11) C hr hlk dX10_text_11 ⟨_, rfl, ?_⟩
    exact ⟨rfl, cK.rf, h.keep⟩
end S88
