section S56
variable {l : Launch} {D : va_G} {cy : Nat → ClassId} {ad : Nat → Nat → Nat} {G d : Nat}
theorem l2_X10_read {p : Program} {e : Env} {s : State} {m : MethodId} {args : Array Value} {below : List Frame} {meth : Method} {c : Code} (C : CX p s m args c cX10_read 6 "CostsAgeModel" D cy ad G (wA ad G) (Rm d) d 0 0) (hr : meth.sig.returnType = (some .int)) (hlk : meth.locks = false) (hG : 56 ≤ G) (hd : 41 ≤ d) {F z : Nat} {f e0 : Nat → Int32} {P : Int32 → rS → rS × Int32} (hP : RPt l D cy ad G (d - 1) F z f e0 P) (hb5 : badp (P 5)) (hm5 : gmP z (fun _ _ => True) (fun _ => 0) (P 5) (P 5)) {M : wS} {q2 : rS} (hB : rB M F z f e0) (hR : rfS M f z q2) (hp : pok z q2) (ho : M.1 30 0 34 = nI 0) {r3 : rS × Int32} (p3 : P 5 q2 = r3) (t w v1 v2 : Int32) (Qf : Int32 → wS → Prop) (hQ : ∀ M' x v3, frR M M' → (r3.1.2.2.2.2 = -1 → v3 = r3.2) → rdQ (if r3.1.2.2.1 = 0 then r3.1 else rfQ r3.1).2.2.2.2 x v1 v2 v3 w M' → Qf x M') : V p l e (Rm d) s m args below meth c 6 D cy ad G (wA ad G) 0 0 (MQ below (wQ D cy ad G (rI Qf)) args s 0 0 (wA ad G)) 94 [(0, .ref (ad 30 0)), (1, .int t), (2, .int w), (3, .int v1), (4, .int v2)] [] M := by
  have hz := hB.1.2.2.1
  have g5 := hm5 q2 hp
  rw [p3] at g5
  refine V_aload_n (pc := 94) C 0 dX10_read_94 rfl rfl ?_
  refine get_X10_187 (pc := 95) C (wg hG (by decide) (by decide)) dX10_read_95 ?_
  refine V_if_eq (tgt := 105) (pc := 98) C dX10_read_98 (by decide) (fun h_98 => ?_) (fun h_98 => ?_)
  · have hnb := hR.bad.mp h_98
    refine V_aload_n (pc := 105) C 0 dX10_read_105 rfl rfl ?_
    refine V_aload_n (pc := 106) C 0 dX10_read_106 rfl rfl ?_
    refine V_bipush (v := 103) (pc := 107) C dX10_read_107 (by decide) ?_
    refine V_bipush (v := 97) (pc := 109) C dX10_read_109 (by decide) ?_
    refine V_bipush (v := 105) (pc := 111) C dX10_read_111 (by decide) ?_
    refine V_bipush (v := 110) (pc := 113) C dX10_read_113 (by decide) ?_
    refine V_bipush (v := 115) (pc := 115) C dX10_read_115 (by decide) ?_
    refine V_iconst (v := 0) (pc := 117) C dX10_read_117 (by decide) ?_
    refine V_iconst (v := 0) (pc := 118) C dX10_read_118 (by decide) ?_
    refine V_iconst (v := 0) (pc := 119) C dX10_read_119 (by decide) ?_
    refine call_X10_207 (pc := 120) C (r_word (d := d - 1) hG (by omega) hB.1 hR 9 (by decide) (by decide)) (by omega) (wg hG (by decide) (by decide)) (Nat.le_of_ble_eq_true rfl) dX10_read_120 (fun x_120 M_120 h_120 => ?_)
    obtain ⟨e_120, rfl⟩ := h_120
    have e_120 := e_120.symm
    subst e_120
    rw [bP_congr (show wq 9 q2.2.2.1 q2.2.2.2.1 ↔ q2.2.2.1 = 5 from wq_hi (by decide))]
    refine call_X10_262 (pc := 123) C (hP 5 _ _ (by decide) hB hR hnb hp ho) (by omega) (wg hG (by decide) (by decide)) (Nat.le_of_ble_eq_true rfl) dX10_read_123 (fun x_123 M_123 h_123 => ?_)
    obtain ⟨f1, f2, f3, f4⟩ := h_123
    rw [p3] at f3 f4
    refine Vs_istore (lv' := [(0, _), (1, _), (2, _), (3, _), (4, _), (5, _)]) (pc := 126) C dX10_read_126 (by decide) rfl rfl ?_
    exact l3_X10_read C hr hlk hG (by omega) (hB.rr f1).1 f3 g5.1 t w v1 v2 _ _ (fun M' x q1 q3 => hQ M' x _ (f1.tr q1) f4 q3)
  · have hb : ¬ q2.2.2.2.2 = -1 := fun e => h_98 (hR.bad.mpr e)
    have ht : q2.2.2.1 = -1 := by
      rcases hR with ⟨y, _⟩ | ⟨_, y, _⟩
      · exact absurd y hb
      · exact y
    have hb3 := hb5 q2 ht hb
    rw [p3] at hb3
    have k3 := hR.ofbad hb hb3.1 hb3.2
    refine V_iconst (v := 0) (pc := 101) C dX10_read_101 (by decide) ?_
    refine V_goto (tgt := 126) (pc := 102) C dX10_read_102 (by decide) ?_
    refine Vs_istore (lv' := [(0, _), (1, _), (2, _), (3, _), (4, _), (5, _)]) (pc := 126) C dX10_read_126 (by decide) rfl rfl ?_
    exact l3_X10_read C hr hlk hG (by omega) hB.1 k3 g5.1 t w v1 v2 _ _ (fun M' x q1 q3 => hQ M' x 0 q1 (fun e => absurd e (by rw [hb3.2]; exact hb)) q3)
theorem l1_X10_read {p : Program} {e : Env} {s : State} {m : MethodId} {args : Array Value} {below : List Frame} {meth : Method} {c : Code} (C : CX p s m args c cX10_read 6 "CostsAgeModel" D cy ad G (wA ad G) (Rm d) d 0 0) (hr : meth.sig.returnType = (some .int)) (hlk : meth.locks = false) (hG : 56 ≤ G) (hd : 41 ≤ d) {F z : Nat} {f e0 : Nat → Int32} {P : Int32 → rS → rS × Int32} (hP : RPt l D cy ad G (d - 1) F z f e0 P) (hbp : ∀ k, ¬ k = -1 → badp (P k)) (hm : ∀ k, gmP z (fun _ _ => True) (fun _ => 0) (P k) (P k)) {M : wS} {q0 : rS} (hB : rB M F z f e0) (hR : rfS M f z q0) (hnb : q0.2.2.2.2 = -1) (hp : pok z q0) (ho : M.1 30 0 34 = nI 0) {r1 r2 r3 : rS × Int32} (p1 : P 3 q0 = r1) (p2 : P 4 r1.1 = r2) (p3 : P 5 r2.1 = r3) (t w : Int32) (Qf : Int32 → wS → Prop) (hQ : ∀ M' x v1 v2 v3, frR M M' → (r3.1.2.2.2.2 = -1 → v1 = r1.2 ∧ v2 = r2.2 ∧ v3 = r3.2) → rdQ (if r3.1.2.2.1 = 0 then r3.1 else rfQ r3.1).2.2.2.2 x v1 v2 v3 w M' → Qf x M') : V p l e (Rm d) s m args below meth c 6 D cy ad G (wA ad G) 0 0 (MQ below (wQ D cy ad G (rI Qf)) args s 0 0 (wA ad G)) 38 [(0, .ref (ad 30 0)), (1, .int t), (2, .int w)] [] M := by
  have g1 := hm 3 q0 hp
  rw [p1] at g1
  have g2 := hm 4 r1.1 g1.1
  rw [p2] at g2
  have g3 := hm 5 r2.1 g2.1
  rw [p3] at g3
  refine V_aload_n (pc := 38) C 0 dX10_read_38 rfl rfl ?_
  refine V_aload_n (pc := 39) C 0 dX10_read_39 rfl rfl ?_
  refine V_bipush (v := 115) (pc := 40) C dX10_read_40 (by decide) ?_
  refine V_bipush (v := 101) (pc := 42) C dX10_read_42 (by decide) ?_
  refine V_bipush (v := 114) (pc := 44) C dX10_read_44 (by decide) ?_
  refine V_bipush (v := 118) (pc := 46) C dX10_read_46 (by decide) ?_
  refine V_bipush (v := 101) (pc := 48) C dX10_read_48 (by decide) ?_
  refine V_bipush (v := 115) (pc := 50) C dX10_read_50 (by decide) ?_
  refine V_iconst (v := 0) (pc := 52) C dX10_read_52 (by decide) ?_
  refine V_iconst (v := 0) (pc := 53) C dX10_read_53 (by decide) ?_
  refine call_X10_207 (pc := 54) C (r_word (d := d - 1) hG (by omega) hB.1 hR 7 (by decide) (by decide)) (by omega) (wg hG (by decide) (by decide)) (Nat.le_of_ble_eq_true rfl) dX10_read_54 (fun x_54 M_54 h_54 => ?_)
  obtain ⟨e_54, rfl⟩ := h_54
  have e_54 := e_54.symm
  subst e_54
  rw [bP_congr (show wq 7 q0.2.2.1 q0.2.2.2.1 ↔ q0.2.2.1 = 3 from wq_hi (by decide))]
  refine call_X10_262 (pc := 57) C (hP 3 _ _ (by decide) hB hR hnb hp ho) (by omega) (wg hG (by decide) (by decide)) (Nat.le_of_ble_eq_true rfl) dX10_read_57 (fun x_57 M_57 h_57 => ?_)
  obtain ⟨f1, f2, f3, f4⟩ := h_57
  rw [p1] at f3 f4
  refine Vs_istore_n (lv' := [(0, _), (1, _), (2, _), (3, _)]) (pc := 60) C dX10_read_60 rfl (by decide) rfl rfl ?_
  refine V_aload_n (pc := 61) C 0 dX10_read_61 rfl rfl ?_
  refine get_X10_187 (pc := 62) C (wg hG (by decide) (by decide)) dX10_read_62 ?_
  refine V_if_eq (tgt := 72) (pc := 65) C dX10_read_65 (by decide) (fun h_65 => ?_) (fun h_65 => ?_)
  · have hb1 := f3.bad.mp h_65
    refine V_aload_n (pc := 72) C 0 dX10_read_72 rfl rfl ?_
    refine V_aload_n (pc := 73) C 0 dX10_read_73 rfl rfl ?_
    refine V_bipush (v := 97) (pc := 74) C dX10_read_74 (by decide) ?_
    refine V_bipush (v := 100) (pc := 76) C dX10_read_76 (by decide) ?_
    refine V_bipush (v := 100) (pc := 78) C dX10_read_78 (by decide) ?_
    refine V_bipush (v := 115) (pc := 80) C dX10_read_80 (by decide) ?_
    refine V_iconst (v := 0) (pc := 82) C dX10_read_82 (by decide) ?_
    refine V_iconst (v := 0) (pc := 83) C dX10_read_83 (by decide) ?_
    refine V_iconst (v := 0) (pc := 84) C dX10_read_84 (by decide) ?_
    refine V_iconst (v := 0) (pc := 85) C dX10_read_85 (by decide) ?_
    refine call_X10_207 (pc := 86) C (r_word (d := d - 1) hG (by omega) (hB.rr f1).1 f3 8 (by decide) (by decide)) (by omega) (wg hG (by decide) (by decide)) (Nat.le_of_ble_eq_true rfl) dX10_read_86 (fun x_86 M_86 h_86 => ?_)
    obtain ⟨e_86, rfl⟩ := h_86
    have e_86 := e_86.symm
    subst e_86
    rw [bP_congr (show wq 8 r1.1.2.2.1 r1.1.2.2.2.1 ↔ r1.1.2.2.1 = 4 from wq_hi (by decide))]
    refine call_X10_262 (pc := 89) C (hP 4 _ _ (by decide) (hB.rr f1) f3 hb1 g1.1 f2) (by omega) (wg hG (by decide) (by decide)) (Nat.le_of_ble_eq_true rfl) dX10_read_89 (fun x_89 M_89 h_89 => ?_)
    obtain ⟨k1, k2, k3, k4⟩ := h_89
    rw [p2] at k3 k4
    refine Vs_istore (lv' := [(0, _), (1, _), (2, _), (3, _), (4, _)]) (pc := 92) C dX10_read_92 (by decide) rfl rfl ?_
    exact l2_X10_read C hr hlk hG hd hP (hbp 5 (by decide)) (hm 5) ((hB.rr f1).rr k1) k3 g2.1 k2 p3 t w _ _ _ (fun M' x v3 q1 q2 q3 => hQ M' x _ _ v3 ((f1.tr k1).tr q1) (fun e => ⟨f4 (g2.2.2.2 (g3.2.2.2 e).1).1, k4 (g3.2.2.2 e).1, q2 e⟩) q3)
  · have hb : ¬ r1.1.2.2.2.2 = -1 := fun e => h_65 (f3.bad.mpr e)
    have ht : r1.1.2.2.1 = -1 := by
      rcases f3 with ⟨y, _⟩ | ⟨_, y, _⟩
      · exact absurd y hb
      · exact y
    have hb2 := hbp 4 (by decide) r1.1 ht hb
    rw [p2] at hb2
    have k3 := f3.ofbad hb hb2.1 hb2.2
    refine V_iconst (v := 0) (pc := 68) C dX10_read_68 (by decide) ?_
    refine V_goto (tgt := 92) (pc := 69) C dX10_read_69 (by decide) ?_
    refine Vs_istore (lv' := [(0, _), (1, _), (2, _), (3, _), (4, _)]) (pc := 92) C dX10_read_92 (by decide) rfl rfl ?_
    exact l2_X10_read C hr hlk hG hd hP (hbp 5 (by decide)) (hm 5) (hB.rr f1) k3 g2.1 f2 p3 t w _ _ _ (fun M' x v3 q1 q2 q3 => hQ M' x _ 0 v3 (f1.tr q1) (fun e => absurd (g2.2.2.2 (g3.2.2.2 e).1).1 hb) q3)
theorem mul160 (t : Nat) : (160 : Int32) * nI t = nI (160 * t) := by
  rw [show (160 : Int32) = nI 160 from rfl]
  exact (Int32.ofNat_mul 160 t).symm
theorem rfS0 {M : wS} {f : Nat → Int32} {z : Nat} (hb : M.1 30 0 35 = 0) (h : rTk M f z (lxSk f (z - 0) 0)) : rfS M f z (gR0 f z) := by
  have hs := lxSk_r f (z - 0) 0
  have hp := (lxP_ok f (z := z) (p := lxSk f (z - 0) 0) (by omega)).1
  refine Or.inl ⟨rfl, hb, ?_, ?_⟩
  · show rTk M f z (lxP f z (lxSk f (z - 0) 0)).2.1
    rw [hp]
    exact h
  · show lxP f z (lxP f z (lxSk f (z - 0) 0)).2.1 = lxP f z (lxSk f (z - 0) 0)
    rw [hp]
theorem l_read (hG : 56 ≤ G) (hd : 41 ≤ d) {t z : Nat} {f e0 : Nat → Int32} (ht : t < 6) {P : Int32 → rS → rS × Int32} (hP : RPt l D cy ad G (d - 1) (160 * t) z f e0 P) (hbp : ∀ k, ¬ k = -1 → badp (P k)) (hm : ∀ k, gmP z (fun _ _ => True) (fun _ => 0) (P k) (P k)) {q0 : rS} (hq0 : q0 = gR0 f z) {r1 r2 r3 : rS × Int32} (p1 : P 3 q0 = r1) (p2 : P 4 r1.1 = r2) (p3 : P 5 r2.1 = r3) {v : Int32 × Int32 × Int32} (hv : v = (r1.2, r2.2, r3.2)) {FL : Int32} (hFL : FL = (if r3.1.2.2.1 = 0 then r3.1 else rfQ r3.1).2.2.2.2) (M : wS) (hz : M.1 32 0 t = nI z) (hz1 : z ≤ 160) (hf : ∀ k, k < z → M.1 31 0 (160 * t + k) = f k) (hf0 : ∀ k, k < z → 0 ≤ f k) (he : ∀ j, j < 6 → M.1 30 0 (22 + j) = e0 j) (w : Int32) : Ctr l D cy ad G d yX10_read cX10_read 6 (some .int) [.ref (ad 30 0), .int (nI t), .int w] M (rI fun x M' => frX M M' ∧ rdQ FL x v.1 v.2.1 v.2.2 w M') := by
  have hfl : r3.1.2.2.2.2 = -1 ∨ ¬ FL = -1 := by
    by_cases c : r3.1.2.2.2.2 = -1
    · exact Or.inl c
    · refine Or.inr ?_
      rw [hFL]
      by_cases c2 : r3.1.2.2.1 = 0
      · rw [if_pos c2]; exact c
      · rw [if_neg c2, (rf_bad c).2]; exact c
  refine Ctr.of (lv0 := [(0, _), (1, _), (2, _)]) (by decide) (Nat.le_of_ble_eq_true rfl) rfl ?_
  intro p e s m args below meth c C hr hlk _
  have C : CX p s m args c cX10_read 6 "CostsAgeModel" D cy ad G (wA ad G) (Rm d) d 0 0 := C
  refine V_aload_n (pc := 0) C 0 dX10_read_0 rfl rfl ?_
  refine V_sipush (v := 160) (pc := 1) C dX10_read_1 (by decide) ?_
  refine V_iload_n (pc := 4) C 1 dX10_read_4 rfl rfl ?_
  refine V_imul (pc := 5) C dX10_read_5 ?_
  refine put_X10_160 (pc := 6) C (wg hG (by decide) (by decide)) dX10_read_6 ?_
  rw [mul160]
  refine V_aload_n (pc := 9) C 0 dX10_read_9 rfl rfl ?_
  refine V_aload_n (pc := 10) C 0 dX10_read_10 rfl rfl ?_
  refine get_X10_17 (pc := 11) C (wg hG (by decide) (by decide)) dX10_read_11 ?_
  refine V_iload_n (pc := 14) C 1 dX10_read_14 rfl rfl ?_
  refine V_iald (pc := 15) C (t) rfl ht (Nat.le_of_ble_eq_true rfl) (wg hG (by decide) (by decide)) wF_32 dX10_read_15 ?_
  refine put_X10_157 (pc := 16) C (wg hG (by decide) (by decide)) dX10_read_16 ?_
  rw [show (mset M 30 0 28 (nI (160 * t))).1 32 0 t = nI z by rw [mset_at, if_neg (by omega)]; exact hz]
  refine V_aload_n (pc := 19) C 0 dX10_read_19 rfl rfl ?_
  refine V_iconst (v := 0) (pc := 20) C dX10_read_20 (by decide) ?_
  refine put_X10_163 (pc := 21) C (wg hG (by decide) (by decide)) dX10_read_21 ?_
  refine V_aload_n (pc := 24) C 0 dX10_read_24 rfl rfl ?_
  refine V_iconst (v := 0) (pc := 25) C dX10_read_25 (by decide) ?_
  refine put_X10_198 (pc := 26) C (wg hG (by decide) (by decide)) dX10_read_26 ?_
  refine V_aload_n (pc := 29) C 0 dX10_read_29 rfl rfl ?_
  refine V_iconst (v := 0) (pc := 30) C dX10_read_30 (by decide) ?_
  refine put_X10_187 (pc := 31) C rfl rfl (wg hG (by decide) (by decide)) dX10_read_31 ?_
  have hM0 : frX M (mset (mset (mset (mset (mset M 30 0 28 (nI (160 * t))) 30 0 29 (nI z)) 30 0 30 0) 30 0 34 0) 30 0 35 0) := ((((frX.set _ (by omega)).tr (frX.set _ (by omega))).tr (frX.set _ (by omega))).tr (frX.set _ (by omega))).tr (frX.set _ (by omega))
  have u28 : (mset (mset (mset (mset (mset M 30 0 28 (nI (160 * t))) 30 0 29 (nI z)) 30 0 30 0) 30 0 34 0) 30 0 35 0).1 30 0 28 = nI (160 * t) := by simp [mset_at]
  have u29 : (mset (mset (mset (mset (mset M 30 0 28 (nI (160 * t))) 30 0 29 (nI z)) 30 0 30 0) 30 0 34 0) 30 0 35 0).1 30 0 29 = nI z := by simp [mset_at]
  have u30 : (mset (mset (mset (mset (mset M 30 0 28 (nI (160 * t))) 30 0 29 (nI z)) 30 0 30 0) 30 0 34 0) 30 0 35 0).1 30 0 30 = 0 := by simp [mset_at]
  have u34 : (mset (mset (mset (mset (mset M 30 0 28 (nI (160 * t))) 30 0 29 (nI z)) 30 0 30 0) 30 0 34 0) 30 0 35 0).1 30 0 34 = 0 := by simp [mset_at]
  have u35 : (mset (mset (mset (mset (mset M 30 0 28 (nI (160 * t))) 30 0 29 (nI z)) 30 0 30 0) 30 0 34 0) 30 0 35 0).1 30 0 35 = 0 := by simp [mset_at]
  generalize mset (mset (mset (mset (mset M 30 0 28 (nI (160 * t))) 30 0 29 (nI z)) 30 0 30 0) 30 0 34 0) 30 0 35 0 = M0 at hM0 u28 u29 u30 u34 u35 ⊢
  have hE0 : rE M0 (160 * t) z f := ⟨u28, u29, hz1, by omega, fun k hk => by rw [hM0.1 31 0 (by decide)]; exact hf k hk, hf0⟩
  have hB0 : rB M0 (160 * t) z f e0 := ⟨hE0, fun j hj => by rw [hM0.2 (22 + j) (by omega)]; exact he j hj⟩
  refine V_aload_n (pc := 34) C 0 dX10_read_34 rfl rfl ?_
  refine call_X10_204 (pc := 35) C (c_X10_next (d := d - 1) hG (by omega) M0 hE0 (a := 0) u30 (Nat.zero_le _)) (by omega) (wg hG (by decide) (by decide)) (Nat.le_of_ble_eq_true rfl) dX10_read_35 (fun M_35 h_35 => ?_)
  obtain ⟨f1, f2⟩ := h_35
  have hb1 : M_35.1 30 0 35 = 0 := by rw [f1.2 35 (by decide) (by decide) (by decide)]; exact u35
  have ho1 : M_35.1 30 0 34 = nI 0 := by rw [f1.2 34 (by decide) (by decide) (by decide)]; exact u34
  have hR0 : rfS M_35 f z q0 := by rw [hq0]; exact rfS0 hb1 f2
  have h00 := gR0_ok f (z := z)
  rw [← hq0] at h00
  refine l1_X10_read C hr hlk hG hd hP hbp hm (hB0.rr f1.r) hR0 h00.2 h00.1 ho1 p1 p2 p3 _ w _ (fun M' x v1 v2 v3 q1 q2 q3 => ?_)
  refine ⟨(hM0.tr f1.r.x).tr q1.x, ?_⟩
  rw [← hFL] at q3
  refine ⟨q3.1, q3.2.1, fun e => ?_⟩
  have h4 := q2 (hfl.resolve_right (fun y => y e))
  rw [q3.2.2 e, h4.1, h4.2.1, h4.2.2, hv]
/-- reading text t for its value w -/
theorem c_X10_read (hG : 56 ≤ G) (hd : 41 ≤ d) {t z : Nat} {f e0 : Nat → Int32} (ht : t < 6) (M : wS) (hz : M.1 32 0 t = nI z) (hz1 : z ≤ 160) (hf : ∀ k, k < z → M.1 31 0 (160 * t + k) = f k) (hf0 : ∀ k, k < z → 0 ≤ f k) (he : ∀ j, j < 6 → M.1 30 0 (22 + j) = e0 j) (w : Int32) : Ctr l D cy ad G d yX10_read cX10_read 6 (some .int) [.ref (ad 30 0), .int (nI t), .int w] M (rI fun x M' => frX M M' ∧ rdQ (gFl f z cA) x (tW f z e0).1 (tW f z e0).2.1 (tW f z e0).2.2 w M') := by
  rw [gFl_eq f hz1 e0]
  exact l_read hG hd ht (rv_part (d := d - 1) hG (by omega) hz1 f e0) (fun k hk => bad_part hk) (fun k => gm_part hz1 (vv_ok e0) k) (q0 := gR0 f z) (r1 := gR1 f z (vA e0)) (r2 := gR2 f z (vA e0)) (r3 := gR3 f z (vA e0)) rfl rfl rfl rfl (v := tW f z e0) rfl (FL := gFl f z (vA e0)) rfl M hz hz1 hf hf0 he w
end S56
