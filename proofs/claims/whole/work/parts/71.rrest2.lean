section S71
variable {l : Launch} {D : va_G} {cy : Nat → ClassId} {ad : Nat → Nat → Nat} {G d : Nat}
theorem r_earns (hG : 56 ≤ G) (hd : 45 ≤ d) {M0 M : wS} {nb nt r e1 e2 e3 b : Nat} {A : Nat → Int32} {f : Int32} (hP : IP M0 nb nt r e1 e2 e3) (hA : ∀ k, k < 7 → 0 ≤ A k ∧ A k ≤ 99) (hC : rC (mFee M0 (upd A b f)) M nb nt r e1 e2 e3) (hb : b < nb) : Ctr l D cy ad G d yX10_earns cX10_earns 4 (some .int) [.ref (ad 30 0), .int (nI b)] M (rI fun x M' => frK 37 M M' ∧ x = sEarn M0 nb nt r e1 e2 A b f) := by
  refine Ctr.of (lv0 := [(0, _), (1, _)]) (by decide) (Nat.le_of_ble_eq_true rfl) rfl ?_
  intro p e s m args below meth c C hr hlk _
  have C : CX p s m args c cX10_earns 4 "CostsAgeModel" D cy ad G (wA ad G) (Rm d) d 0 0 := C
  refine V_iconst (v := 0) (pc := 0) C dX10_earns_0 (by decide) ?_
  refine Vs_istore_n (lv' := [(0, _), (1, _), (2, _)]) (pc := 1) C dX10_earns_1 rfl (by decide) rfl rfl ?_
  refine V_iconst (v := 0) (pc := 2) C dX10_earns_2 (by decide) ?_
  refine Vs_istore_n (lv' := [(0, _), (1, _), (2, _), (3, _)]) (pc := 3) C dX10_earns_3 rfl (by decide) rfl rfl ?_
  exact lp_X10_earns C hr hlk hG hd hP hA hC hb _ nt 0 0 M (by omega) frK.rf (fun M' h => ⟨h, rfl⟩)
/-- while fees rest: fees and scratch only -/
def frW (nb : Nat) (M M' : wS) : Prop := (∀ g i, g ≠ 30 → g ≠ 37 → g ∉ [42, 43, 44, 45, 46, 47, 48] → M'.1 g i = M.1 g i) ∧ (∀ k, k < 22 ∨ 38 < k → M'.1 30 0 k = M.1 30 0 k) ∧ (∀ i, i ≠ 0 → M'.1 37 i = M.1 37 i) ∧ ∀ k, nb ≤ k → M'.1 37 0 k = M.1 37 0 k
theorem frW.rf {nb : Nat} {M : wS} : frW nb M M := ⟨fun _ _ _ _ _ => rfl, fun _ _ => rfl, fun _ _ => rfl, fun _ _ => rfl⟩
theorem frW.tr {nb : Nat} {M M1 M2 : wS} (h : frW nb M M1) (h2 : frW nb M1 M2) : frW nb M M2 := ⟨fun g i a b c => (h2.1 g i a b c).trans (h.1 g i a b c), fun k a => (h2.2.1 k a).trans (h.2.1 k a), fun i a => (h2.2.2.1 i a).trans (h.2.2.1 i a), fun k a => (h2.2.2.2 k a).trans (h.2.2.2 k a)⟩
theorem frK.w {nb hi : Nat} {M M' : wS} (h : frK hi M M') (hh : hi ≤ 38) : frW nb M M' := ⟨fun g i a _ _ => h.1 g i a, fun k a => h.2 k (by omega), fun i _ => h.1 37 i (by decide), fun k _ => by rw [h.1 37 0 (by decide)]⟩
theorem frW.fee {nb : Nat} {M : wS} {b : Nat} (x : Int32) (hb : b < nb) : frW nb M (mset M 37 0 b x) := by
  refine ⟨fun g i a c2 _ => ?_, fun k _ => ?_, fun i a => ?_, fun k a => ?_⟩
  · funext j; rw [mset_at, if_neg (fun e => c2 e.1)]
  · rw [mset_at, if_neg (by omega)]
  · funext j; rw [mset_at, if_neg (fun e => a e.2.1)]
  · rw [mset_at, if_neg (by omega)]
theorem frW.was {nb : Nat} {M : wS} {b : Nat} (x : Int32) : frW nb M (mset M 48 0 b x) := by
  refine ⟨fun g i a c2 c3 => ?_, fun k _ => ?_, fun i a => ?_, fun k a => ?_⟩
  · funext j; rw [mset_at, if_neg (fun e => c3 (by rw [e.1]; decide))]
  · rw [mset_at, if_neg (by omega)]
  · funext j; rw [mset_at, if_neg (by omega)]
  · rw [mset_at, if_neg (by omega)]
def okF (A : Nat → Int32) : Prop := ∀ k, k < 7 → 0 ≤ A k ∧ A k ≤ 99
/-- the reference stands as if these fees were asked -/
def fC (M0 M : wS) (nb nt r e1 e2 e3 : Nat) (A : Nat → Int32) : Prop := rC (mFee M0 A) M nb nt r e1 e2 e3
theorem IP_fee {M0 : wS} {nb nt r e1 e2 e3 : Nat} {A : Nat → Int32} (h : IP M0 nb nt r e1 e2 e3) (hA : okF A) : IP (mFee M0 A) nb nt r e1 e2 e3 := by
  unfold IP IX IB at *
  rw [mFee_ne _ _ (show 0 ≠ 28 by decide), mFee_ne _ _ (show 26 ≠ 28 by decide), mFee_ne _ _ (show 7 ≠ 28 by decide), mFee_ne _ _ (show 27 ≠ 28 by decide), mFee_at]
  refine ⟨h.1, h.2.1, h.2.2.1, fun k hk => ?_, h.2.2.2.2⟩
  rw [mFee_ne _ _ (show 5 ≠ 28 by decide)]
  have := h.2.2.2.1 k hk
  exact ⟨this.1, this.2.1, this.2.2.1, this.2.2.2.1, hA k hk⟩
theorem fC.of {M0 M M' : wS} {nb nt r e1 e2 e3 : Nat} {A A' : Nat → Int32} (hP : IP M0 nb nt r e1 e2 e3) (h : fC M0 M nb nt r e1 e2 e3 A) (hF : frW nb M M') (hA : okF A') (hf : ∀ k, k < 7 → M'.1 37 0 k = A' k) : fC M0 M' nb nt r e1 e2 e3 A' := by
  obtain ⟨-, ⟨⟨a1, a2⟩, ⟨a3, a4, a5, a6⟩, a7⟩, z, f, b1, b2, b3, b4, b5⟩ := h
  rw [mFee_ne _ _ (show 26 ≠ 28 by decide)] at a3 a4 a5 a6
  rw [mFee_ne _ _ (show 8 ≠ 28 by decide)] at b5
  refine ⟨IP_fee hP hA, ⟨⟨?_, ?_⟩, ⟨?_, ?_, ?_, ?_⟩, fun k hk => ?_⟩, z, f, ?_, b2, fun k hk => ?_, b4, ?_⟩
  · rw [hF.2.1 12 (by omega)]; exact a1
  · rw [hF.2.1 16 (by omega)]; exact a2
  · rw [mFee_ne _ _ (show 26 ≠ 28 by decide), hF.2.1 17 (by omega)]; exact a3
  · rw [mFee_ne _ _ (show 26 ≠ 28 by decide), hF.2.1 18 (by omega)]; exact a4
  · rw [mFee_ne _ _ (show 26 ≠ 28 by decide), hF.2.1 21 (by omega)]; exact a5
  · rw [mFee_ne _ _ (show 26 ≠ 28 by decide), hF.2.1 4 (by omega)]; exact a6
  · have h7 := a7 k hk
    rw [mFee_ne _ _ (show 5 ≠ 28 by decide), mFee_ne _ _ (show 6 ≠ 28 by decide), mFee_ne _ _ (show 27 ≠ 28 by decide), mFee_ne _ _ (show 29 ≠ 28 by decide)] at h7 ⊢
    rw [hF.1 34 0 (by decide) (by decide) (by decide), hF.1 35 0 (by decide) (by decide) (by decide), hF.1 36 0 (by decide) (by decide) (by decide), hF.1 38 0 (by decide) (by decide) (by decide), hF.1 39 0 (by decide) (by decide) (by decide), hF.1 40 0 (by decide) (by decide) (by decide), hF.1 41 0 (by decide) (by decide) (by decide), mFee_at]
    exact ⟨⟨h7.1.1, h7.1.2.1, h7.1.2.2.1, hf k hk, h7.1.2.2.2.2⟩, h7.2⟩
  · rw [hF.1 32 0 (by decide) (by decide) (by decide)]; exact b1
  · rw [hF.1 31 0 (by decide) (by decide) (by decide)]; exact b3 k hk
  · rw [mFee_ne _ _ (show 8 ≠ 28 by decide)]; exact b5
theorem fC.fee {M0 M : wS} {nb nt r e1 e2 e3 : Nat} {A : Nat → Int32} (h : fC M0 M nb nt r e1 e2 e3 A) {k : Nat} (hk : k < 7) : M.1 37 0 k = A k := by
  have := (h.2.1.2.2 k hk).1.2.2.2.1
  rw [mFee_at] at this
  exact this
theorem fC.set {M0 M : wS} {nb nt r e1 e2 e3 : Nat} {A : Nat → Int32} (hP : IP M0 nb nt r e1 e2 e3) (h : fC M0 M nb nt r e1 e2 e3 A) (hA : okF A) {b : Nat} (hb : b < nb) {x : Int32} (hx : 0 ≤ x ∧ x ≤ 99) : fC M0 (mset M 37 0 b x) nb nt r e1 e2 e3 (upd A b x) ∧ okF (upd A b x) := by
  have h2 : okF (upd A b x) := by
    intro k hk
    unfold upd
    split
    · exact hx
    · exact hA k hk
  refine ⟨fC.of hP h (frW.fee x hb) h2 (fun k hk => ?_), h2⟩
  rw [mset_at]
  unfold upd
  by_cases e : k = b
  · rw [if_pos ⟨rfl, rfl, e⟩, if_pos e]
  · rw [if_neg (fun z => e z.2.2), if_neg e]
    exact h.fee hk
theorem upd_upd (A : Nat → Int32) (b : Nat) (x y : Int32) : upd (upd A b x) b y = upd A b y := by
  funext k
  unfold upd
  split <;> rfl
theorem upd_id (A : Nat → Int32) (b : Nat) : upd A b (A b) = A := by
  funext k
  unfold upd
  split
  · next e => rw [e]
  · rfl
theorem fRun_r (w : Int32 → Int32) {B : Nat} (hB : B ≤ 50) : ∀ (n f : Nat) (q : Int32 × Int32), f + n ≤ B → (0 ≤ q.1 ∧ q.1 ≤ 99) → 0 ≤ (fRun w f n q).1 ∧ (fRun w f n q).1 ≤ 99 := by
  intro n
  induction n with
  | zero => intro f q _ h; exact h
  | succ n ih =>
    intro f q hf h
    unfold fRun
    refine ih (f + 1) _ (by omega) ?_
    unfold fStep
    split
    · exact h
    · exact ⟨nI_pos' (by omega), nI_le (b := 99) (by omega) (by decide)⟩
theorem lf_X10_rest {p : Program} {e : Env} {s : State} {m : MethodId} {args : Array Value} {below : List Frame} {meth : Method} {c : Code} (C : CX p s m args c cX10_rest 10 "CostsAgeModel" D cy ad G (wA ad G) (Rm d) d 0 0) (hr : meth.sig.returnType = (some .int)) (hlk : meth.locks = false) (hG : 56 ≤ G) (hd : 46 ≤ d) {M0 : wS} {nb nt r e1 e2 e3 b : Nat} {A : Nat → Int32} (hP : IP M0 nb nt r e1 e2 e3) (hA : okF A) (hb : b < nb) (by_ more rd had : Int32) (Qf : Int32 → wS → Prop) : ∀ (n f : Nat) (q : Int32 × Int32) (Ms M : wS) (x : Int32), f + n = 21 → frW nb Ms M → fC M0 M nb nt r e1 e2 e3 (upd A b x) → (0 ≤ x ∧ x ≤ 99) → (∀ M' x', frW nb Ms M' → M'.1 48 0 = M.1 48 0 → fC M0 M' nb nt r e1 e2 e3 (upd A b x') → (0 ≤ x' ∧ x' ≤ 99) → V p l e (Rm d) s m args below meth c 10 D cy ad G (wA ad G) 0 0 (MQ below (wQ D cy ad G (rI Qf)) args s 0 0 (wA ad G)) 135 [(0, .ref (ad 30 0)), (1, .int by_), (2, .int more), (3, .int rd), (4, .int (nI b)), (5, .int had), (7, .int (fRun (sEarn M0 nb nt r e1 e2 A b) f n q).1)] [] M') → V p l e (Rm d) s m args below meth c 10 D cy ad G (wA ad G) 0 0 (MQ below (wQ D cy ad G (rI Qf)) args s 0 0 (wA ad G)) 90 [(0, .ref (ad 30 0)), (1, .int by_), (2, .int more), (3, .int rd), (4, .int (nI b)), (5, .int had), (6, .int q.2), (7, .int q.1), (8, .int (nI f))] [] M := by
  have hb7 := hP.1.2
  intro n
  induction n with
  | zero =>
    intro f q Ms M x hf hF hC hx hQ
    refine V_iload (pc := 90) C 8 dX10_rest_90 rfl ?_
    refine V_bipush (v := 20) (pc := 92) C dX10_rest_92 (by decide) ?_
    refine V_icmp_gt (tgt := 135) (pc := 94) C dX10_rest_94 (by decide) (fun h_94 => ?_) (fun h_94 => ?_)
    · refine V_loc (lv' := [(0, _), (1, _), (2, _), (3, _), (4, _), (5, _), (7, _)]) [0, 1, 2, 3, 4, 5, 7] rfl ?_
      exact hQ M x hF rfl hC hx
    · exact absurd (nI_lt (a := 20) (b := f) (by omega) (by omega)) h_94
  | succ n ih =>
    intro f q Ms M x hf hF hC hx hQ
    unfold fRun at hQ
    have hfx : 0 ≤ nI f ∧ nI f ≤ 99 := ⟨nI_pos' (by omega), nI_le (b := 99) (by omega) (by decide)⟩
    have hux : okF (upd A b x) := by
      intro k hk
      unfold upd
      split
      · exact hx
      · exact hA k hk
    have hs := fC.set hP hC hux hb hfx
    rw [upd_upd] at hs
    refine V_iload (pc := 90) C 8 dX10_rest_90 rfl ?_
    refine V_bipush (v := 20) (pc := 92) C dX10_rest_92 (by decide) ?_
    refine V_icmp_gt (tgt := 135) (pc := 94) C dX10_rest_94 (by decide) (fun h_94 => ?_) (fun h_94 => ?_)
    · exact absurd h_94 (nI_nlt (b := f) (a := 20) (by omega) (by decide))
    · refine V_aload_n (pc := 97) C 0 dX10_rest_97 rfl rfl ?_
      refine get_X10_32 (pc := 98) C (wg hG (by decide) (by decide)) dX10_rest_98 ?_
      refine V_iload (pc := 101) C 4 dX10_rest_101 rfl ?_
      refine V_iload (pc := 103) C 8 dX10_rest_103 rfl ?_
      refine V_iast (pc := 105) C (b) rfl (by omega) (Nat.le_of_ble_eq_true rfl) (wg hG (by decide) (by decide)) (fun _ => wF_37) dX10_rest_105 ?_
      refine V_aload_n (pc := 106) C 0 dX10_rest_106 rfl rfl ?_
      refine V_iload (pc := 107) C 4 dX10_rest_107 rfl ?_
      refine call_X10_323 (pc := 109) C (r_earns (d := d - 1) hG (by omega) hP hA hs.1 hb) (by omega) (wg hG (by decide) (by decide)) (Nat.le_of_ble_eq_true rfl) dX10_rest_109 (fun x_109 M_109 h_109 => ?_)
      obtain ⟨f1, f2⟩ := h_109
      have hF2 := (hF.tr (frW.fee (nI f) hb)).tr (f1.w (by decide))
      have hC2 : fC M0 M_109 nb nt r e1 e2 e3 (upd A b (nI f)) := fC.of hP hs.1 (f1.w (by decide)) hs.2 (fun k hk => by rw [f1.1 37 0 (by decide)]; exact hs.1.fee hk)
      have h48 : M_109.1 48 0 = M.1 48 0 := by
        rw [f1.1 48 0 (by decide)]
        funext j
        rw [mset_at, if_neg (by omega)]
      refine Vs_istore (lv' := [(0, _), (1, _), (2, _), (3, _), (4, _), (5, _), (6, _), (7, _), (8, _), (9, _)]) (pc := 112) C dX10_rest_112 (by decide) rfl rfl ?_
      refine V_iload (pc := 114) C 9 dX10_rest_114 rfl ?_
      refine V_iload (pc := 116) C 6 dX10_rest_116 rfl ?_
      refine V_icmp_le (tgt := 129) (pc := 118) C dX10_rest_118 (by decide) (fun h_118 => ?_) (fun h_118 => ?_)
      · have hst : fStep (sEarn M0 nb nt r e1 e2 A b) f q = q := by rw [fStep, ← f2, if_pos h_118]
        rw [hst] at hQ
        refine Vs_iinc (v := nI (f + 1)) (lv' := [(0, _), (1, _), (2, _), (3, _), (4, _), (5, _), (6, _), (7, _), (8, _), (9, _)]) (pc := 129) C 8 dX10_rest_129 rfl (by decide) rfl (nI_i1 (f)) rfl ?_
        refine V_goto (tgt := 90) (pc := 132) C dX10_rest_132 (by decide) ?_
        refine V_loc (lv' := [(0, _), (1, _), (2, _), (3, _), (4, _), (5, _), (6, _), (7, _), (8, _)]) [0, 1, 2, 3, 4, 5, 6, 7, 8] rfl ?_
        exact ih (f + 1) q Ms M_109 (nI f) (by omega) hF2 hC2 hfx (fun M' x' g1 g2 g3 g4 => hQ M' x' g1 (g2.trans h48) g3 g4)
      · have hst : fStep (sEarn M0 nb nt r e1 e2 A b) f q = (nI f, x_109) := by rw [fStep, ← f2, if_neg h_118]
        rw [hst] at hQ
        refine V_iload (pc := 121) C 8 dX10_rest_121 rfl ?_
        refine Vs_istore (lv' := [(0, _), (1, _), (2, _), (3, _), (4, _), (5, _), (6, _), (7, _), (8, _), (9, _)]) (pc := 123) C dX10_rest_123 (by decide) rfl rfl ?_
        refine V_iload (pc := 125) C 9 dX10_rest_125 rfl ?_
        refine Vs_istore (lv' := [(0, _), (1, _), (2, _), (3, _), (4, _), (5, _), (6, _), (7, _), (8, _), (9, _)]) (pc := 127) C dX10_rest_127 (by decide) rfl rfl ?_
        refine Vs_iinc (v := nI (f + 1)) (lv' := [(0, _), (1, _), (2, _), (3, _), (4, _), (5, _), (6, _), (7, _), (8, _), (9, _)]) (pc := 129) C 8 dX10_rest_129 rfl (by decide) rfl (nI_i1 (f)) rfl ?_
        refine V_goto (tgt := 90) (pc := 132) C dX10_rest_132 (by decide) ?_
        refine V_loc (lv' := [(0, _), (1, _), (2, _), (3, _), (4, _), (5, _), (6, _), (7, _), (8, _)]) [0, 1, 2, 3, 4, 5, 6, 7, 8] rfl ?_
        exact ih (f + 1) (nI f, x_109) Ms M_109 (nI f) (by omega) hF2 hC2 hfx (fun M' x' g1 g2 g3 g4 => hQ M' x' g1 (g2.trans h48) g3 g4)
theorem lb_X10_rest {p : Program} {e : Env} {s : State} {m : MethodId} {args : Array Value} {below : List Frame} {meth : Method} {c : Code} (C : CX p s m args c cX10_rest 10 "CostsAgeModel" D cy ad G (wA ad G) (Rm d) d 0 0) (hr : meth.sig.returnType = (some .int)) (hlk : meth.locks = false) (hG : 56 ≤ G) (hd : 46 ≤ d) {M0 : wS} {nb nt r e1 e2 e3 : Nat} (hP : IP M0 nb nt r e1 e2 e3) (by_ rd : Int32) (Qf : Int32 → wS → Prop) : ∀ (n b : Nat) (q : (Nat → Int32) × Bool) (Ms M : wS), b + n = nb → frW nb Ms M → fC M0 M nb nt r e1 e2 e3 q.1 → okF q.1 → (∀ M' q', q' = sRound M0 nb nt r e1 e2 b n q → frW nb Ms M' → M'.1 48 0 = M.1 48 0 → fC M0 M' nb nt r e1 e2 e3 q'.1 → okF q'.1 → V p l e (Rm d) s m args below meth c 10 D cy ad G (wA ad G) 0 0 (MQ below (wQ D cy ad G (rI Qf)) args s 0 0 (wA ad G)) 167 [(0, .ref (ad 30 0)), (1, .int by_), (2, .int (bI (q'.2 = true))), (3, .int rd)] [] M') → V p l e (Rm d) s m args below meth c 10 D cy ad G (wA ad G) 0 0 (MQ below (wQ D cy ad G (rI Qf)) args s 0 0 (wA ad G)) 57 [(0, .ref (ad 30 0)), (1, .int by_), (2, .int (bI (q.2 = true))), (3, .int rd), (4, .int (nI b))] [] M := by
  have hb7 := hP.1.2
  intro n
  induction n with
  | zero =>
    intro b q Ms M hb hF hC hA hQ
    have hm := hC.2.1.1.1
    obtain rfl : b = nb := by omega
    refine V_iload (pc := 57) C 4 dX10_rest_57 rfl ?_
    refine V_aload_n (pc := 59) C 0 dX10_rest_59 rfl rfl ?_
    refine get_X10_103 (pc := 60) C (wg hG (by decide) (by decide)) dX10_rest_60 ?_
    refine V_icmp_ge (tgt := 167) (pc := 63) C dX10_rest_63 (by decide) (fun h_63 => ?_) (fun h_63 => ?_)
    · refine V_loc (lv' := [(0, _), (1, _), (2, _), (3, _)]) [0, 1, 2, 3] rfl ?_
      exact hQ M q rfl hF rfl hC hA
    · rw [hm] at h_63
      exact absurd (nI_le (Nat.le_refl _) (by omega)) h_63
  | succ n ih =>
    intro b q Ms M hb hF hC hA hQ
    have hm := hC.2.1.1.1
    have hbn : b < nb := by omega
    have hcf := hC.fee (k := b) (by omega)
    have hsf : sFee M0 nb nt r e1 e2 q.1 b = (fRun (sEarn M0 nb nt r e1 e2 q.1 b) 0 21 (q.1 b, sEarn M0 nb nt r e1 e2 q.1 b (q.1 b))).1 := rfl
    have hsr : 0 ≤ sFee M0 nb nt r e1 e2 q.1 b ∧ sFee M0 nb nt r e1 e2 q.1 b ≤ 99 := by
      rw [hsf]
      exact fRun_r _ (B := 21) (by decide) 21 0 _ (by decide) (hA b (by omega))
    have hCu : rC (mFee M0 (upd q.1 b (q.1 b))) M nb nt r e1 e2 e3 := by rw [upd_id]; exact hC
    have hCi : ∀ M1, frK 37 M M1 → fC M0 M1 nb nt r e1 e2 e3 (upd q.1 b (q.1 b)) := fun M1 h1 => by
      rw [upd_id]
      exact fC.of hP hC (h1.w (by decide)) hA (fun k hk => by rw [h1.1 37 0 (by decide)]; exact hC.fee hk)
    unfold sRound at hQ
    refine V_iload (pc := 57) C 4 dX10_rest_57 rfl ?_
    refine V_aload_n (pc := 59) C 0 dX10_rest_59 rfl rfl ?_
    refine get_X10_103 (pc := 60) C (wg hG (by decide) (by decide)) dX10_rest_60 ?_
    refine V_icmp_ge (tgt := 167) (pc := 63) C dX10_rest_63 (by decide) (fun h_63 => ?_) (fun h_63 => ?_)
    · rw [hm] at h_63
      exact absurd h_63 (nI_ge (by omega) (by omega))
    · refine V_aload_n (pc := 66) C 0 dX10_rest_66 rfl rfl ?_
      refine get_X10_32 (pc := 67) C (wg hG (by decide) (by decide)) dX10_rest_67 ?_
      refine V_iload (pc := 70) C 4 dX10_rest_70 rfl ?_
      refine V_iald (pc := 72) C (b) rfl (by omega) (Nat.le_of_ble_eq_true rfl) (wg hG (by decide) (by decide)) wF_37 dX10_rest_72 ?_
      rw [hcf]
      refine Vs_istore (lv' := [(0, _), (1, _), (2, _), (3, _), (4, _), (5, _)]) (pc := 73) C dX10_rest_73 (by decide) rfl rfl ?_
      refine V_aload_n (pc := 75) C 0 dX10_rest_75 rfl rfl ?_
      refine V_iload (pc := 76) C 4 dX10_rest_76 rfl ?_
      refine call_X10_323 (pc := 78) C (r_earns (d := d - 1) hG (by omega) hP hA hCu hbn) (by omega) (wg hG (by decide) (by decide)) (Nat.le_of_ble_eq_true rfl) dX10_rest_78 (fun x_78 M_78 h_78 => ?_)
      obtain ⟨f1, f2⟩ := h_78
      have hF2 := hF.tr (f1.w (by decide))
      subst f2
      refine Vs_istore (lv' := [(0, _), (1, _), (2, _), (3, _), (4, _), (5, _), (6, _)]) (pc := 81) C dX10_rest_81 (by decide) rfl rfl ?_
      refine V_iload (pc := 83) C 5 dX10_rest_83 rfl ?_
      refine Vs_istore (lv' := [(0, _), (1, _), (2, _), (3, _), (4, _), (5, _), (6, _), (7, _)]) (pc := 85) C dX10_rest_85 (by decide) rfl rfl ?_
      refine V_iconst (v := 0) (pc := 87) C dX10_rest_87 (by decide) ?_
      refine Vs_istore (lv' := [(0, _), (1, _), (2, _), (3, _), (4, _), (5, _), (6, _), (7, _), (8, _)]) (pc := 88) C dX10_rest_88 (by decide) rfl rfl ?_
      refine V_loc (lv' := [(0, _), (1, _), (2, _), (3, _), (4, _), (5, _), (6, _), (7, _), (8, _)]) [0, 1, 2, 3, 4, 5, 6, 7, 8] rfl ?_
      refine lf_X10_rest C hr hlk hG hd hP hA hbn by_ _ rd (q.1 b) _ 21 0 (q.1 b, sEarn M0 nb nt r e1 e2 q.1 b (q.1 b)) Ms M_78 (q.1 b) (by decide) hF2 (hCi M_78 f1) (hA b (by omega)) (fun M1 x1 g1 g2 g3 g4 => ?_)
      rw [← hsf]
      have hux : okF (upd q.1 b x1) := by
        intro k hk
        unfold upd
        split
        · exact g4
        · exact hA k hk
      have hs := fC.set hP g3 hux hbn hsr
      rw [upd_upd] at hs
      have hF3 := g1.tr (frW.fee (sFee M0 nb nt r e1 e2 q.1 b) hbn)
      have h48 : (mset M1 37 0 b (sFee M0 nb nt r e1 e2 q.1 b)).1 48 0 = M.1 48 0 := by
        rw [← f1.1 48 0 (by decide), ← g2]
        funext j
        rw [mset_at, if_neg (by omega)]
      refine V_aload_n (pc := 135) C 0 dX10_rest_135 rfl rfl ?_
      refine get_X10_32 (pc := 136) C (wg hG (by decide) (by decide)) dX10_rest_136 ?_
      refine V_iload (pc := 139) C 4 dX10_rest_139 rfl ?_
      refine V_iload (pc := 141) C 6 dX10_rest_141 rfl ?_
      refine V_iast (pc := 143) C (b) rfl (by omega) (Nat.le_of_ble_eq_true rfl) (wg hG (by decide) (by decide)) (fun _ => wF_37) dX10_rest_143 ?_
      refine V_iload_n (pc := 144) C 2 dX10_rest_144 rfl rfl ?_
      refine V_if_ne (tgt := 155) (pc := 145) C dX10_rest_145 (by decide) (fun h_145 => ?_) (fun h_145 => ?_)
      · have h_145 := bJ_1.mp h_145
        have hz : (q.2 || !(sFee M0 nb nt r e1 e2 q.1 b == q.1 b)) = true := by rw [h_145]; rfl
        refine V_iconst (v := 1) (pc := 155) C dX10_rest_155 (by decide) ?_
        refine V_goto (tgt := 160) (pc := 156) C dX10_rest_156 (by decide) ?_
        refine Vs_istore_n (lv' := [(0, _), (1, _), (2, _), (3, _), (4, _), (5, _), (7, _)]) (pc := 160) C dX10_rest_160 rfl (by decide) rfl rfl ?_
        refine Vs_iinc (v := nI (b + 1)) (lv' := [(0, _), (1, _), (2, _), (3, _), (4, _), (5, _), (7, _)]) (pc := 161) C 4 dX10_rest_161 rfl (by decide) rfl (nI_i1 (b)) rfl ?_
        refine V_goto (tgt := 57) (pc := 164) C dX10_rest_164 (by decide) ?_
        refine V_loc (lv' := [(0, _), (1, _), (2, _), (3, _), (4, _)]) [0, 1, 2, 3, 4] rfl ?_
        first | (rw [show (1 : Int32) = bI ((q.2 || !(sFee M0 nb nt r e1 e2 q.1 b == q.1 b)) = true) from bI_t hz]; exact ih (b + 1) (upd q.1 b (sFee M0 nb nt r e1 e2 q.1 b), q.2 || !(sFee M0 nb nt r e1 e2 q.1 b == q.1 b)) Ms _ (by omega) hF3 hs.1 hs.2 (fun M' q' k1 k2 k3 k4 k5 => hQ M' q' k1 k2 (k3.trans h48) k4 k5)) | (rw [show (0 : Int32) = bI ((q.2 || !(sFee M0 nb nt r e1 e2 q.1 b == q.1 b)) = true) from bI_f hz]; exact ih (b + 1) (upd q.1 b (sFee M0 nb nt r e1 e2 q.1 b), q.2 || !(sFee M0 nb nt r e1 e2 q.1 b == q.1 b)) Ms _ (by omega) hF3 hs.1 hs.2 (fun M' q' k1 k2 k3 k4 k5 => hQ M' q' k1 k2 (k3.trans h48) k4 k5))
      · have h_145 := bJ_0.mp h_145
        refine V_iload (pc := 148) C 6 dX10_rest_148 rfl ?_
        refine V_iload (pc := 150) C 5 dX10_rest_150 rfl ?_
        refine V_icmp_eq (tgt := 159) (pc := 152) C dX10_rest_152 (by decide) (fun h_152 => ?_) (fun h_152 => ?_)
        · have hz : ¬ (q.2 || !(sFee M0 nb nt r e1 e2 q.1 b == q.1 b)) = true := by
            rw [h_152]
            simpa using h_145
          refine V_iconst (v := 0) (pc := 159) C dX10_rest_159 (by decide) ?_
          refine Vs_istore_n (lv' := [(0, _), (1, _), (2, _), (3, _), (4, _), (5, _), (7, _)]) (pc := 160) C dX10_rest_160 rfl (by decide) rfl rfl ?_
          refine Vs_iinc (v := nI (b + 1)) (lv' := [(0, _), (1, _), (2, _), (3, _), (4, _), (5, _), (7, _)]) (pc := 161) C 4 dX10_rest_161 rfl (by decide) rfl (nI_i1 (b)) rfl ?_
          refine V_goto (tgt := 57) (pc := 164) C dX10_rest_164 (by decide) ?_
          refine V_loc (lv' := [(0, _), (1, _), (2, _), (3, _), (4, _)]) [0, 1, 2, 3, 4] rfl ?_
          first | (rw [show (1 : Int32) = bI ((q.2 || !(sFee M0 nb nt r e1 e2 q.1 b == q.1 b)) = true) from bI_t hz]; exact ih (b + 1) (upd q.1 b (sFee M0 nb nt r e1 e2 q.1 b), q.2 || !(sFee M0 nb nt r e1 e2 q.1 b == q.1 b)) Ms _ (by omega) hF3 hs.1 hs.2 (fun M' q' k1 k2 k3 k4 k5 => hQ M' q' k1 k2 (k3.trans h48) k4 k5)) | (rw [show (0 : Int32) = bI ((q.2 || !(sFee M0 nb nt r e1 e2 q.1 b == q.1 b)) = true) from bI_f hz]; exact ih (b + 1) (upd q.1 b (sFee M0 nb nt r e1 e2 q.1 b), q.2 || !(sFee M0 nb nt r e1 e2 q.1 b == q.1 b)) Ms _ (by omega) hF3 hs.1 hs.2 (fun M' q' k1 k2 k3 k4 k5 => hQ M' q' k1 k2 (k3.trans h48) k4 k5))
        · have hz : (q.2 || !(sFee M0 nb nt r e1 e2 q.1 b == q.1 b)) = true := by
            simp [h_152]
          refine V_iconst (v := 1) (pc := 155) C dX10_rest_155 (by decide) ?_
          refine V_goto (tgt := 160) (pc := 156) C dX10_rest_156 (by decide) ?_
          refine Vs_istore_n (lv' := [(0, _), (1, _), (2, _), (3, _), (4, _), (5, _), (7, _)]) (pc := 160) C dX10_rest_160 rfl (by decide) rfl rfl ?_
          refine Vs_iinc (v := nI (b + 1)) (lv' := [(0, _), (1, _), (2, _), (3, _), (4, _), (5, _), (7, _)]) (pc := 161) C 4 dX10_rest_161 rfl (by decide) rfl (nI_i1 (b)) rfl ?_
          refine V_goto (tgt := 57) (pc := 164) C dX10_rest_164 (by decide) ?_
          refine V_loc (lv' := [(0, _), (1, _), (2, _), (3, _), (4, _)]) [0, 1, 2, 3, 4] rfl ?_
          first | (rw [show (1 : Int32) = bI ((q.2 || !(sFee M0 nb nt r e1 e2 q.1 b == q.1 b)) = true) from bI_t hz]; exact ih (b + 1) (upd q.1 b (sFee M0 nb nt r e1 e2 q.1 b), q.2 || !(sFee M0 nb nt r e1 e2 q.1 b == q.1 b)) Ms _ (by omega) hF3 hs.1 hs.2 (fun M' q' k1 k2 k3 k4 k5 => hQ M' q' k1 k2 (k3.trans h48) k4 k5)) | (rw [show (0 : Int32) = bI ((q.2 || !(sFee M0 nb nt r e1 e2 q.1 b == q.1 b)) = true) from bI_f hz]; exact ih (b + 1) (upd q.1 b (sFee M0 nb nt r e1 e2 q.1 b), q.2 || !(sFee M0 nb nt r e1 e2 q.1 b == q.1 b)) Ms _ (by omega) hF3 hs.1 hs.2 (fun M' q' k1 k2 k3 k4 k5 => hQ M' q' k1 k2 (k3.trans h48) k4 k5))
end S71
