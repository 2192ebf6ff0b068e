section S46
variable {l : Launch} {D : va_G} {cy : Nat → ClassId} {ad : Nat → Nat → Nat} {G d : Nat}
theorem rd_not {ok : Bool} {o : Int32} (hG : 30 ≤ G) {t : Nat} (ht : t < 6) {f : Nat → Int32} {z d : Nat} (hok : ok = true ↔ o < 5) {one rn : rS → rS × List Int32} (hd : 11 ≤ d) (h1 : RD l D cy ad G (d - 3) yX3_readOne cX3_readOne 3 t f z o one) (h2 : ok = true → RD l D cy ad G (d - 1) yX3_readNot cX3_readNot 4 t f z (o + 1) rn) : RD l D cy ad G d yX3_readNot cX3_readNot 4 t f z o (gNotF f z cA ok rn one) := by
  have a1 : RD l D cy ad G (d - 2) yX3_readTerm cX3_readTerm 4 t f z o (gTerm f z cA one) := rd_readTerm hG (by omega) ht (by rw [show d - 2 - 1 = d - 3 by omega]; exact h1)
  have a2 : RD l D cy ad G (d - 1) yX3_readSum cX3_readSum 5 t f z o (gSum f z cA one) := rd_readSum hG (by omega) ht (by rw [show d - 1 - 1 = d - 2 by omega]; exact a1)
  exact rd_readNot hG (by omega) ht hok a2 h2
theorem rd_E {o : Int32} (hG : 30 ≤ G) {t : Nat} (ht : t < 6) {f : Nat → Int32} {z d : Nat} {nt : rS → rS × List Int32} (hd : 13 ≤ d) (h1 : RD l D cy ad G (d - 2) yX3_readNot cX3_readNot 4 t f z o nt) : RD l D cy ad G d yX3_readE cX3_readE 4 t f z o (gE f z cA nt) := by
  have a1 : RD l D cy ad G (d - 1) yX3_readAnd cX3_readAnd 4 t f z o (gAnd f z cA nt) := rd_readAnd hG (by omega) ht (by rw [show d - 1 - 1 = d - 2 by omega]; exact h1)
  exact rd_readE hG (by omega) ht a1
theorem rd_lev (hG : 30 ≤ G) {t : Nat} (ht : t < 6) (f : Nat → Int32) (z : Nat) : ∀ k, k ≤ 5 → (∀ d, 8 + 6 * k ≤ d → RD l D cy ad G d yX3_readOne cX3_readOne 3 t f z (nI (5 - k)) (gLev f z cA k).1) ∧ ∀ d, 11 + 6 * k ≤ d → RD l D cy ad G d yX3_readNot cX3_readNot 4 t f z (nI (5 - k)) (gLev f z cA k).2 := by
  intro k
  induction k with
  | zero =>
    intro _
    have h0 : (false = true) ↔ nI (5 - 0) < 5 := by decide
    have a1 : ∀ d, 8 + 6 * 0 ≤ d → RD l D cy ad G d yX3_readOne cX3_readOne 3 t f z (nI (5 - 0)) (gLev f z cA 0).1 := fun d hd => rd_readOne (ro := fun q => (q, cA.2.1)) (re := fun q => (q, cA.2.1)) hG (by omega) ht h0 (fun e => absurd e (by decide)) (fun e => absurd e (by decide))
    exact ⟨a1, fun d hd => rd_not (rn := fun q => (q, cA.2.1)) hG ht h0 (by omega) (a1 (d - 3) (by omega)) (fun e => absurd e (by decide))⟩
  | succ k ih =>
    intro hk
    obtain ⟨b1, b2⟩ := ih (by omega)
    have h0 : (true = true) ↔ nI (5 - (k + 1)) < 5 := ⟨fun _ => nI_lt (b := 5) (by omega) (by decide), fun _ => rfl⟩
    have e1 : nI (5 - (k + 1)) + 1 = nI (5 - k) := by rw [nI_1, show 5 - (k + 1) + 1 = 5 - k by omega]
    have a1 : ∀ d, 8 + 6 * (k + 1) ≤ d → RD l D cy ad G d yX3_readOne cX3_readOne 3 t f z (nI (5 - (k + 1))) (gLev f z cA (k + 1)).1 := fun d hd => rd_readOne hG (by omega) ht h0 (fun _ => by rw [e1]; exact b1 (d - 1) (by omega)) (fun _ => by rw [e1]; exact rd_E hG ht (by omega) (b2 (d - 1 - 2) (by omega)))
    exact ⟨a1, fun d hd => rd_not hG ht h0 (by omega) (a1 (d - 3) (by omega)) (fun _ => by rw [e1]; exact b2 (d - 1) (by omega))⟩
theorem rd_E5 (hG : 30 ≤ G) {t : Nat} (ht : t < 6) (f : Nat → Int32) (z : Nat) {d : Nat} (hd : 43 ≤ d) : RD l D cy ad G d yX3_readE cX3_readE 4 t f z 0 (gE f z cA (gLev f z cA 5).2) := by
  have h := (rd_lev (l := l) (D := D) (cy := cy) (ad := ad) hG ht f z 5 (by omega)).2 (d - 2) (by omega)
  exact rd_E hG ht (by omega) h
theorem r_part (hG : 30 ≤ G) (hd : 44 ≤ d) {t : Nat} (ht : t < 6) {f : Nat → Int32} {z : Nat} {M : wS} {q : rS} {cur : List Int32} (h : rSt t f z M q cur) (key : Int32) : Ctr l D cy ad G d yX3_readPart cX3_readPart 3 (some .int) [.ref (ad 11 0), .int key, .ref (ad 8 t)] M (rI fun x M' => x = nI (cat cur (gPart f z cA key q).2).length ∧ fr8 t M M' ∧ rSt t f z M' (gPart f z cA key q).1 (cat cur (gPart f z cA key q).2)) := by
  have hE := rd_E5 (l := l) (D := D) (cy := cy) (ad := ad) (G := G) (d := d - 1) hG ht f z (by omega)
  unfold gPart
  generalize gE f z cA (gLev f z cA 5).2 = F at hE ⊢
  refine Ctr.of (lv0 := [(0, _), (1, _), (2, _)]) (by decide) (Nat.le_of_ble_eq_true rfl) rfl ?_
  intro p e s m args below meth c C hr hlk _
  have C : CX p s m args c cX3_readPart 3 "CostsAge$Reader" D cy ad G (wA ad G) (Rm d) d 0 0 := C
  refine V_aload_n (pc := 0) C 0 dX3_readPart_0 rfl rfl ?_
  refine V_iload_n (pc := 1) C 1 dX3_readPart_1 rfl rfl ?_
  refine call_X3_55 (pc := 2) C (r_expect (d := d - 1) hG (by omega) h key) (by omega) (wg hG (by decide) (by decide)) (Nat.le_of_ble_eq_true rfl) dX3_readPart_2 (fun M_2 h_2 => ?_)
  obtain ⟨f1, r1⟩ := h_2
  refine V_aload_n (pc := 5) C 0 dX3_readPart_5 rfl rfl ?_
  refine V_aload_n (pc := 6) C 2 dX3_readPart_6 rfl rfl ?_
  refine V_iconst (v := 0) (pc := 7) C dX3_readPart_7 (by decide) ?_
  refine call_X3_59 (pc := 8) C (hE _ _ _ r1) (by omega) (wg hG (by decide) (by decide)) (Nat.le_of_ble_eq_true rfl) dX3_readPart_8 (fun M_8 h_8 => ?_)
  obtain ⟨f2, r2⟩ := h_8
  refine V_aload_n (pc := 11) C 0 dX3_readPart_11 rfl rfl ?_
  refine V_bipush (v := 59) (pc := 12) C dX3_readPart_12 (by decide) ?_
  refine call_X3_55 (pc := 14) C (r_expect (d := d - 1) hG (by omega) r2 59) (by omega) (wg hG (by decide) (by decide)) (Nat.le_of_ble_eq_true rfl) dX3_readPart_14 (fun M_14 h_14 => ?_)
  obtain ⟨f3, r3⟩ := h_14
  refine V_aload_n (pc := 17) C 0 dX3_readPart_17 rfl rfl ?_
  refine get_X3_22 (pc := 18) C (wg hG (by decide) (by decide)) dX3_readPart_18 ?_
  refine V_iret (pc := 21) C hr hlk dX3_readPart_21 ⟨_, rfl, ?_⟩
  exact ⟨r3.2.2.2.2.2.2.1, (f1.tr f2).tr f3, r3⟩
theorem rSt.s7 {t : Nat} {f : Nat → Int32} {z : Nat} {M : wS} {q : rS} {cur : List Int32} (h : rSt t f z M q cur) (k : Nat) (x : Int32) : rSt t f z (mset M 7 t k x) q cur := by
  obtain ⟨⟨⟨a1, a2, a3, a4⟩, a5⟩, b1, b2, b3, b4, b5, b6, b7⟩ := h
  have key : ∀ g i j, g ≠ 7 → (mset M 7 t k x).1 g i j = M.1 g i j := fun g i j hg => by rw [mset_at, if_neg (fun e => hg e.1)]
  refine ⟨⟨⟨?_, ?_, ?_, fun e => ?_⟩, ?_⟩, b1, ?_, b3, ?_, b5, ?_, fun j hj => ?_⟩
  · rw [key _ _ _ (by decide)]; exact a1
  · rw [key _ _ _ (by decide)]; exact a2
  · rw [key _ _ _ (by decide)]; exact a3
  · rw [key _ _ _ (by decide)]; exact a4 e
  · rw [key _ _ _ (by decide)]; exact a5
  · rw [key _ _ _ (by decide)]; exact b2
  · funext j
    rw [key _ _ _ (by decide), b4]
  · rw [key _ _ _ (by decide)]; exact b6
  · rw [key _ _ _ (by decide)]; exact b7 j hj
/-- nothing but the reader and one TEXT has changed -/
def fr7 (t : Nat) (M M' : wS) : Prop := (∀ g i, g ≠ 11 → ¬ (g = 8 ∧ i = t) → ¬ (g = 7 ∧ i = t) → M'.1 g i = M.1 g i) ∧ M'.2 = M.2
theorem fr7.tr {t : Nat} {M M1 M2 : wS} (h : fr7 t M M1) (h2 : fr7 t M1 M2) : fr7 t M M2 := ⟨fun g i a b x => (h2.1 g i a b x).trans (h.1 g i a b x), h2.2.trans h.2⟩
theorem fr8.f7 {t : Nat} {M M1 : wS} (h : fr8 t M M1) : fr7 t M M1 := ⟨fun g i a b _ => h.1 g i a b, h.2⟩
theorem fr7.s7 (t : Nat) (M : wS) (k : Nat) (x : Int32) : fr7 t M (mset M 7 t k x) := ⟨fun g i _ _ b => funext fun j => by rw [mset_at, if_neg (fun e => b ⟨e.1, e.2.1⟩)], rfl⟩
theorem fr7.s11 (t : Nat) (M : wS) (k : Nat) (x : Int32) : fr7 t M (mset M 11 0 k x) := ⟨fun g i a _ _ => funext fun j => by rw [mset_at, if_neg (fun e => a e.1)], rfl⟩
theorem fr8.g7 {t : Nat} {M M1 : wS} (h : fr8 t M M1) (k : Nat) : M1.1 7 t k = M.1 7 t k := by rw [h.1 7 t (by decide) (by omega)]
def cOutL (t : Nat) (M M' : wS) (c1 c2 c3 : List Int32) : Prop := fr7 t M M' ∧ M'.1 11 0 1 = 0 ∧ M'.1 7 t 1 = nI c1.length ∧ M'.1 7 t 2 = nI c2.length ∧ M'.1 7 t 3 = nI c3.length ∧ ∀ j, j < c3.length → M'.1 8 t j = c3.getD j 0
theorem cOut_end {t : Nat} {f : Nat → Int32} {z : Nat} {M M5 : wS} {q : rS} {c1 c2 c3 : List Int32} (k4 : fr7 t M M5) (w3 : M5.1 7 t 1 = nI c1.length) (w2 : M5.1 7 t 2 = nI c2.length) (v3 : M5.1 7 t 3 = nI c3.length) (s4 : rSt t f z M5 q c3) : q.2.2.2.2 = (mset M5 11 0 1 0).1 11 0 6 ∧ cOutL t M (mset M5 11 0 1 0) c1 c2 c3 := by
  refine ⟨?_, k4.tr (fr7.s11 t M5 1 0), ?_, ?_, ?_, ?_, fun j hj => ?_⟩
  · rw [mset_at, if_neg (by omega)]; exact s4.1.2.symm
  · rw [mset_at, if_pos ⟨rfl, rfl, rfl⟩]
  · rw [mset_at, if_neg (by omega)]; exact w3
  · rw [mset_at, if_neg (by omega)]; exact w2
  · rw [mset_at, if_neg (by omega)]; exact v3
  · rw [mset_at, if_neg (by omega)]; exact s4.2.2.2.2.2.2.2 j hj
theorem l_compile (hG : 30 ≤ G) (hd : 45 ≤ d) {t : Nat} (ht : t < 6) {f : Nat → Int32} {z : Nat} (P : Int32 → rS → rS × List Int32) (hP : ∀ (key : Int32) (M : wS) (q : rS) (cur : List Int32), rSt t f z M q cur → Ctr l D cy ad G (d - 1) yX3_readPart cX3_readPart 3 (some .int) [.ref (ad 11 0), .int key, .ref (ad 8 t)] M (rI fun x M' => x = nI (cat cur (P key q).2).length ∧ fr8 t M M' ∧ rSt t f z M' (P key q).1 (cat cur (P key q).2))) {q0 q1 q2 q3 : rS} {b1 b2 b3 c1 c2 c3 : List Int32} (hq0 : q0 = gR0 f z) (p1 : P 3 q0 = (q1, b1)) (p2 : P 4 q1 = (q2, b2)) (p3 : P 5 q2 = (q3, b3)) (hc1 : cat [] b1 = c1) (hc2 : cat c1 b2 = c2) (hc3 : cat c2 b3 = c3) (M : wS) (hf : M.1 12 0 = f) (hz : M.1 11 0 1 = nI z) (hz1 : z ≤ 160) : Ctr l D cy ad G d yX3_compile cX3_compile 2 (some .int) [.ref (ad 11 0), .ref (ad 7 t)] M (rI fun x M' => x = (if q3.2.2.1 = 0 then q3 else rfQ q3).2.2.2.2 ∧ cOutL t M M' c1 c2 c3) := by
  have key : ∀ g i j, ¬ (g = 11 ∧ i = 0 ∧ (j = 2 ∨ j = 7 ∨ j = 6)) → (mset (mset (mset M 11 0 2 0) 11 0 7 0) 11 0 6 (-1)).1 g i j = M.1 g i j := by
    intro g i j hn
    rw [mset_at, if_neg (by omega), mset_at, if_neg (by omega), mset_at, if_neg (by omega)]
  have k0 : fr7 t M (mset (mset (mset M 11 0 2 0) 11 0 7 0) 11 0 6 (-1)) := ((fr7.s11 t _ _ _).tr (fr7.s11 t _ _ _)).tr (fr7.s11 t _ _ _)
  have u6 : (mset (mset (mset M 11 0 2 0) 11 0 7 0) 11 0 6 (-1)).1 11 0 6 = -1 := by rw [mset_at, if_pos ⟨rfl, rfl, rfl⟩]
  have u7 : (mset (mset (mset M 11 0 2 0) 11 0 7 0) 11 0 6 (-1)).1 11 0 7 = 0 := by rw [mset_at, if_neg (by omega), mset_at, if_pos ⟨rfl, rfl, rfl⟩]
  have u2 : (mset (mset (mset M 11 0 2 0) 11 0 7 0) 11 0 6 (-1)).1 11 0 2 = 0 := by rw [mset_at, if_neg (by omega), mset_at, if_neg (by omega), mset_at, if_pos ⟨rfl, rfl, rfl⟩]
  refine Ctr.of (lv0 := [(0, _), (1, _)]) (by decide) (Nat.le_of_ble_eq_true rfl) rfl ?_
  intro p e s m args below meth c C hr hlk _
  have C : CX p s m args c cX3_compile 2 "CostsAge$Reader" D cy ad G (wA ad G) (Rm d) d 0 0 := C
  refine V_aload_n (pc := 0) C 0 dX3_compile_0 rfl rfl ?_
  refine V_iconst (v := 0) (pc := 1) C dX3_compile_1 (by decide) ?_
  refine put_X3_19 (pc := 2) C (wg hG (by decide) (by decide)) dX3_compile_2 ?_
  refine V_aload_n (pc := 5) C 0 dX3_compile_5 rfl rfl ?_
  refine V_iconst (v := 0) (pc := 6) C dX3_compile_6 (by decide) ?_
  refine put_X3_22 (pc := 7) C (wg hG (by decide) (by decide)) dX3_compile_7 ?_
  refine V_aload_n (pc := 10) C 0 dX3_compile_10 rfl rfl ?_
  refine V_iconst (v := -1) (pc := 11) C dX3_compile_11 (by decide) ?_
  refine put_X3_25 (pc := 12) C (wg hG (by decide) (by decide)) dX3_compile_12 ?_
  generalize mset (mset (mset M 11 0 2 0) 11 0 7 0) 11 0 6 (-1) = M0 at key k0 u6 u7 u2 ⊢
  refine V_aload_n (pc := 15) C 0 dX3_compile_15 rfl rfl ?_
  refine call_X3_28 (pc := 16) C (c_X3_advance (d := d - 1) hG (by omega) M0 (f := f) (z := z) (a := 0) (by funext j; rw [key _ _ _ (by omega), hf]) (by rw [key _ _ _ (by omega)]; exact hz) hz1 u2 (Nat.zero_le _)) (by omega) (wg hG (by decide) (by decide)) (Nat.le_of_ble_eq_true rfl) dX3_compile_16 (fun M_16 h_16 => ?_)
  obtain ⟨h1, h2⟩ := h_16
  have r0 : rSt t f z M_16 q0 [] := by
    rw [hq0]
    refine ⟨⟨h2, ?_⟩, (lx_r f (Nat.zero_le z)).2.2, ?_, hz1, ?_, Nat.zero_le _, ?_, fun j hj => absurd hj (Nat.not_lt_zero _)⟩
    · rw [h1.2.2 6 (by decide) (by decide) (by decide) (by decide), u6]
      rfl
    · rw [h1.2.2 1 (by decide) (by decide) (by decide) (by decide), key _ _ _ (by omega)]
      exact hz
    · rw [h1.1 12 0 (by decide)]
      funext j
      rw [key _ _ _ (by omega), hf]
    · rw [h1.2.2 7 (by decide) (by decide) (by decide) (by decide), u7]
      rfl
  have k1 : fr7 t M M_16 := k0.tr ⟨fun g i a _ _ => h1.1 g i a, h1.2.1⟩
  clear h1 h2 k0 key
  refine V_aload_n (pc := 19) C 1 dX3_compile_19 rfl rfl ?_
  refine V_aload_n (pc := 20) C 0 dX3_compile_20 rfl rfl ?_
  refine V_iconst (v := 3) (pc := 21) C dX3_compile_21 (by decide) ?_
  refine V_aload_n (pc := 22) C 1 dX3_compile_22 rfl rfl ?_
  refine get_X3_31 (pc := 23) C (wg hG (by decide) (show t < 6 from ht)) dX3_compile_23 ?_
  refine call_X3_36 (pc := 26) C (hP 3 _ _ _ r0) (by omega) (wg hG (by decide) (by decide)) (Nat.le_of_ble_eq_true rfl) dX3_compile_26 (fun x_26 M_26 h_26 => ?_)
  obtain ⟨e1, f1, r1⟩ := h_26
  rw [p1] at e1 r1
  simp only [hc1] at e1 r1
  subst e1
  refine put_X3_40 (pc := 29) C (wg hG (by decide) (show t < 6 from ht)) dX3_compile_29 ?_
  have s1 := r1.s7 1 (nI c1.length)
  have v1 : (mset M_26 7 t 1 (nI c1.length)).1 7 t 1 = nI c1.length := by rw [mset_at, if_pos ⟨rfl, rfl, rfl⟩]
  have k2 := (k1.tr f1.f7).tr (fr7.s7 t M_26 1 (nI c1.length))
  generalize mset M_26 7 t 1 (nI c1.length) = M3 at s1 v1 k2 ⊢
  refine V_aload_n (pc := 32) C 1 dX3_compile_32 rfl rfl ?_
  refine V_aload_n (pc := 33) C 0 dX3_compile_33 rfl rfl ?_
  refine V_iconst (v := 4) (pc := 34) C dX3_compile_34 (by decide) ?_
  refine V_aload_n (pc := 35) C 1 dX3_compile_35 rfl rfl ?_
  refine get_X3_31 (pc := 36) C (wg hG (by decide) (show t < 6 from ht)) dX3_compile_36 ?_
  refine call_X3_36 (pc := 39) C (hP 4 _ _ _ s1) (by omega) (wg hG (by decide) (by decide)) (Nat.le_of_ble_eq_true rfl) dX3_compile_39 (fun x_39 M_39 h_39 => ?_)
  obtain ⟨e2, f2, r2⟩ := h_39
  rw [p2] at e2 r2
  simp only [hc2] at e2 r2
  subst e2
  refine put_X3_43 (pc := 42) C (wg hG (by decide) (show t < 6 from ht)) dX3_compile_42 ?_
  have s2 := r2.s7 2 (nI c2.length)
  have v2 : (mset M_39 7 t 2 (nI c2.length)).1 7 t 2 = nI c2.length := by rw [mset_at, if_pos ⟨rfl, rfl, rfl⟩]
  have w1 : (mset M_39 7 t 2 (nI c2.length)).1 7 t 1 = nI c1.length := by rw [mset_at, if_neg (by omega), f2.g7]; exact v1
  have k3 := (k2.tr f2.f7).tr (fr7.s7 t M_39 2 (nI c2.length))
  generalize mset M_39 7 t 2 (nI c2.length) = M4 at s2 v2 w1 k3 ⊢
  refine V_aload_n (pc := 45) C 1 dX3_compile_45 rfl rfl ?_
  refine V_aload_n (pc := 46) C 0 dX3_compile_46 rfl rfl ?_
  refine V_iconst (v := 5) (pc := 47) C dX3_compile_47 (by decide) ?_
  refine V_aload_n (pc := 48) C 1 dX3_compile_48 rfl rfl ?_
  refine get_X3_31 (pc := 49) C (wg hG (by decide) (show t < 6 from ht)) dX3_compile_49 ?_
  refine call_X3_36 (pc := 52) C (hP 5 _ _ _ s2) (by omega) (wg hG (by decide) (by decide)) (Nat.le_of_ble_eq_true rfl) dX3_compile_52 (fun x_52 M_52 h_52 => ?_)
  obtain ⟨e3, f3, r3⟩ := h_52
  rw [p3] at e3 r3
  simp only [hc3] at e3 r3
  subst e3
  refine put_X3_46 (pc := 55) C (wg hG (by decide) (show t < 6 from ht)) dX3_compile_55 ?_
  have s3 := r3.s7 3 (nI c3.length)
  have v3 : (mset M_52 7 t 3 (nI c3.length)).1 7 t 3 = nI c3.length := by rw [mset_at, if_pos ⟨rfl, rfl, rfl⟩]
  have w2 : (mset M_52 7 t 3 (nI c3.length)).1 7 t 2 = nI c2.length := by rw [mset_at, if_neg (by omega), f3.g7]; exact v2
  have w3 : (mset M_52 7 t 3 (nI c3.length)).1 7 t 1 = nI c1.length := by rw [mset_at, if_neg (by omega), f3.g7]; exact w1
  have k4 := (k3.tr f3.f7).tr (fr7.s7 t M_52 3 (nI c3.length))
  generalize mset M_52 7 t 3 (nI c3.length) = M5 at s3 v3 w2 w3 k4 ⊢
  have a3 : M5.1 11 0 4 = q3.2.2.1 := s3.1.1.2.2.1
  refine V_aload_n (pc := 58) C 0 dX3_compile_58 rfl rfl ?_
  refine get_X3_49 (pc := 59) C (wg hG (by decide) (by decide)) dX3_compile_59 ?_
  refine V_if_eq (tgt := 69) (pc := 62) C dX3_compile_62 (by decide) (fun h_62 => ?_) (fun h_62 => ?_)
  · rw [a3] at h_62
    refine V_aload_n (pc := 69) C 0 dX3_compile_69 rfl rfl ?_
    refine V_iconst (v := 0) (pc := 70) C dX3_compile_70 (by decide) ?_
    refine put_X3_15 (pc := 71) C (wg hG (by decide) (by decide)) dX3_compile_71 ?_
    refine V_aload_n (pc := 74) C 0 dX3_compile_74 rfl rfl ?_
    refine get_X3_25 (pc := 75) C (wg hG (by decide) (by decide)) dX3_compile_75 ?_
    refine V_iret (pc := 78) C hr hlk dX3_compile_78 ⟨_, rfl, ?_⟩
    rw [if_pos h_62]
    have hE := cOut_end k4 w3 w2 v3 s3
    exact ⟨hE.1.symm, hE.2⟩
  · rw [a3] at h_62
    refine V_aload_n (pc := 65) C 0 dX3_compile_65 rfl rfl ?_
    refine call_X3_52 (pc := 66) C (r_refuse (d := d - 1) hG s3) (by omega) (wg hG (by decide) (by decide)) (Nat.le_of_ble_eq_true rfl) dX3_compile_66 (fun M_66 h_66 => ?_)
    obtain ⟨f4, r4⟩ := h_66
    refine V_aload_n (pc := 69) C 0 dX3_compile_69 rfl rfl ?_
    refine V_iconst (v := 0) (pc := 70) C dX3_compile_70 (by decide) ?_
    refine put_X3_15 (pc := 71) C (wg hG (by decide) (by decide)) dX3_compile_71 ?_
    refine V_aload_n (pc := 74) C 0 dX3_compile_74 rfl rfl ?_
    refine get_X3_25 (pc := 75) C (wg hG (by decide) (by decide)) dX3_compile_75 ?_
    refine V_iret (pc := 78) C hr hlk dX3_compile_78 ⟨_, rfl, ?_⟩
    rw [if_neg h_62]
    have hE := cOut_end (k4.tr f4.f7) (by rw [f4.g7]; exact w3) (by rw [f4.g7]; exact w2) (by rw [f4.g7]; exact v3) r4
    exact ⟨hE.1.symm, hE.2⟩
def cC1 (f : Nat → Int32) (z : Nat) : List Int32 := cat [] (gR1 f z cA).2
def cC2 (f : Nat → Int32) (z : Nat) : List Int32 := cat (cC1 f z) (gR2 f z cA).2
def cC3 (f : Nat → Int32) (z : Nat) : List Int32 := cat (cC2 f z) (gR3 f z cA).2
theorem c_X3_compile (hG : 30 ≤ G) (hd : 45 ≤ d) {t : Nat} (ht : t < 6) {f : Nat → Int32} {z : Nat} (M : wS) (hf : M.1 12 0 = f) (hz : M.1 11 0 1 = nI z) (hz1 : z ≤ 160) : Ctr l D cy ad G d yX3_compile cX3_compile 2 (some .int) [.ref (ad 11 0), .ref (ad 7 t)] M (rI fun x M' => x = gFl f z cA ∧ cOutL t M M' (cC1 f z) (cC2 f z) (cC3 f z)) := by
  have h := l_compile (l := l) (D := D) (cy := cy) (ad := ad) (d := d) hG hd ht (gPart f z cA) (fun key M q cur h => r_part (d := d - 1) hG (by omega) ht h key) (q0 := gR0 f z) (q1 := (gR1 f z cA).1) (b1 := (gR1 f z cA).2) (q2 := (gR2 f z cA).1) (b2 := (gR2 f z cA).2) (q3 := (gR3 f z cA).1) (b3 := (gR3 f z cA).2) (c1 := cC1 f z) (c2 := cC2 f z) (c3 := cC3 f z) rfl (Prod.eta (gR1 f z cA)).symm (Prod.eta (gR2 f z cA)).symm (Prod.eta (gR3 f z cA)).symm rfl rfl rfl M hf hz hz1
  exact h
/-- a new TEXT from THE TAPE -/
def kTextL (M : wS) (tc : Nat) (FL : Int32) (c1 c2 c3 : List Int32) (x : Int32) (M' : wS) : Prop := ∃ M1, cOutL tc M M1 c1 c2 c3 ∧ ((FL = -1 ∧ x = nI tc ∧ M' = mset M1 0 0 13 (nI (tc + 1))) ∨ (¬ FL = -1 ∧ x = -100 - FL ∧ M' = M1))
theorem l_text (hG : 30 ≤ G) (hd : 46 ≤ d) (M : wS) {tc : Nat} (htc : M.1 0 0 13 = nI tc) (htc6 : tc ≤ 6) {FL : Int32} {c1 c2 c3 : List Int32} (hcp : tc < 6 → Ctr l D cy ad G (d - 1) yX3_compile cX3_compile 2 (some .int) [.ref (ad 11 0), .ref (ad 7 tc)] M (rI fun x M' => x = FL ∧ cOutL tc M M' c1 c2 c3)) : Ctr l D cy ad G d yX9_text cX9_text 2 (some .int) [.ref (ad 0 0)] M (rI fun x M' => (tc = 6 ∧ x = -4 ∧ M' = M) ∨ (tc < 6 ∧ kTextL M tc FL c1 c2 c3 x M')) := by
  refine Ctr.of (lv0 := [(0, _)]) (by decide) (Nat.le_of_ble_eq_true rfl) rfl ?_
  intro p e s m args below meth c C hr hlk _
  have C : CX p s m args c cX9_text 2 "CostsAge" D cy ad G (wA ad G) (Rm d) d 0 0 := C
  refine V_aload_n (pc := 0) C 0 dX9_text_0 rfl rfl ?_
  refine get_X9_99 (pc := 1) C (wg hG (by decide) (by decide)) dX9_text_1 ?_
  refine V_bipush (v := 6) (pc := 4) C dX9_text_4 (by decide) ?_
  refine V_icmp_lt (tgt := 12) (pc := 6) C dX9_text_6 (by decide) (fun h_6 => ?_) (fun h_6 => ?_)
  · rw [htc] at h_6
    have h6 : tc < 6 := (nI_ltI (b := 6) (by omega) (by decide)).mp h_6
    refine V_aload_n (pc := 12) C 0 dX9_text_12 rfl rfl ?_
    refine get_X9_36 (pc := 13) C (wg hG (by decide) (by decide)) dX9_text_13 ?_
    refine V_aload_n (pc := 16) C 0 dX9_text_16 rfl rfl ?_
    refine get_X9_23 (pc := 17) C (wg hG (by decide) (by decide)) dX9_text_17 ?_
    refine V_aload_n (pc := 20) C 0 dX9_text_20 rfl rfl ?_
    refine get_X9_99 (pc := 21) C (wg hG (by decide) (by decide)) dX9_text_21 ?_
    refine V_aald (pc := 24) C (tc) htc h6 (Nat.le_of_ble_eq_true rfl) (wg hG (by decide) (by decide)) wF_3 rfl dX9_text_24 ?_
    refine call_X9_95 (pc := 25) C (hcp h6) (by omega) (wg hG (by decide) (by decide)) (Nat.le_of_ble_eq_true rfl) dX9_text_25 (fun x_25 M_25 h_25 => ?_)
    obtain ⟨e_25, h25⟩ := h_25
    subst e_25
    have g13 : M_25.1 0 0 13 = nI tc := by rw [h25.1.1 0 0 (by decide) (by omega) (by omega)]; exact htc
    refine Vs_istore_n (lv' := [(0, _), (1, _)]) (pc := 28) C dX9_text_28 rfl (by decide) rfl rfl ?_
    refine V_iload_n (pc := 29) C 1 dX9_text_29 rfl rfl ?_
    refine V_iconst (v := -1) (pc := 30) C dX9_text_30 (by decide) ?_
    refine V_icmp_eq (tgt := 39) (pc := 31) C dX9_text_31 (by decide) (fun h_31 => ?_) (fun h_31 => ?_)
    · refine V_aload_n (pc := 39) C 0 dX9_text_39 rfl rfl ?_
      refine V_dup (pc := 40) C dX9_text_40 rfl ?_
      refine get_X9_99 (pc := 41) C (wg hG (by decide) (by decide)) dX9_text_41 ?_
      refine V_iconst (v := 1) (pc := 44) C dX9_text_44 (by decide) ?_
      refine V_iadd (pc := 45) C dX9_text_45 ?_
      refine put_X9_99 (pc := 46) C (wg hG (by decide) (by decide)) dX9_text_46 ?_
      rw [g13, nI_1]
      refine V_aload_n (pc := 49) C 0 dX9_text_49 rfl rfl ?_
      refine get_X9_99 (pc := 50) C (wg hG (by decide) (by decide)) dX9_text_50 ?_
      refine V_iconst (v := 1) (pc := 53) C dX9_text_53 (by decide) ?_
      refine V_isub (pc := 54) C dX9_text_54 ?_
      refine V_iret (pc := 55) C hr hlk dX9_text_55 ⟨_, rfl, ?_⟩
      refine Or.inr ⟨h6, M_25, h25, Or.inl ⟨h_31, ?_, rfl⟩⟩
      rw [mset_at, if_pos ⟨rfl, rfl, rfl⟩]
      exact nI_pred tc
    · refine V_bipush (v := -100) (pc := 34) C dX9_text_34 (by decide) ?_
      refine V_iload_n (pc := 36) C 1 dX9_text_36 rfl rfl ?_
      refine V_isub (pc := 37) C dX9_text_37 ?_
      refine V_iret (pc := 38) C hr hlk dX9_text_38 ⟨_, rfl, ?_⟩
      exact Or.inr ⟨h6, M_25, h25, Or.inr ⟨h_31, rfl, rfl⟩⟩
  · rw [htc] at h_6
    have h6 : tc = 6 := Nat.le_antisymm htc6 (Nat.le_of_not_lt (fun e => h_6 (nI_lt (b := 6) e (by decide))))
    refine V_bipush (v := -4) (pc := 9) C dX9_text_9 (by decide) ?_
    refine V_iret (pc := 11) C hr hlk dX9_text_11 ⟨_, rfl, ?_⟩
    exact Or.inl ⟨h6, rfl, rfl⟩
theorem c_X9_text (hG : 30 ≤ G) (hd : 46 ≤ d) (M : wS) {f : Nat → Int32} {z tc : Nat} (hf : M.1 12 0 = f) (hz : M.1 11 0 1 = nI z) (hz1 : z ≤ 160) (htc : M.1 0 0 13 = nI tc) (htc6 : tc ≤ 6) : Ctr l D cy ad G d yX9_text cX9_text 2 (some .int) [.ref (ad 0 0)] M (rI fun x M' => (tc = 6 ∧ x = -4 ∧ M' = M) ∨ (tc < 6 ∧ kTextL M tc (gFl f z cA) (cC1 f z) (cC2 f z) (cC3 f z) x M')) :=
  l_text hG hd M htc htc6 (fun h6 => c_X3_compile hG (by omega) h6 M hf hz hz1)
end S46
