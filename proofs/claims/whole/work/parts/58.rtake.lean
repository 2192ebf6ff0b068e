/-! what the reference tells the text of things, against what the class shows -/
def aStep (M0 : wS) (v b : Int32) (t : Nat) (q : Int32 × Int32 × Int32) : Int32 × Int32 × Int32 := if (v >>> (nI t &&& 31)) &&& 1 = 1 then (q.1 + M0.1 6 t 0, q.2.1 + M0.1 6 t 1, if M0.1 29 0 t = b then q.2.2 else 0) else q
def aRun (M0 : wS) (v b : Int32) : Nat → Nat → (Int32 × Int32 × Int32) → (Int32 × Int32 × Int32)
  | _, 0, q => q
  | t, n + 1, q => aRun M0 v b (t + 1) n (aStep M0 v b t q)
def shw (M0 N : wS) (nt : Nat) (v : Int32) : Prop := St M0 N ∧ ∀ k, k < 7 → N.1 14 0 1 = (aRun M0 v (nI k) 0 nt (0, 0, 1)).1 ∧ N.1 14 0 2 = (aRun M0 v (nI k) 0 nt (0, 0, 1)).2.1 ∧ bI (N.1 13 0 2 = nI k) = (aRun M0 v (nI k) 0 nt (0, 0, 1)).2.2
theorem bit01 (v : Int32) (t : Nat) : (v >>> (nI t &&& 31)) &&& 1 = 0 ∨ (v >>> (nI t &&& 31)) &&& 1 = 1 := by
  generalize v >>> (nI t &&& 31) = x
  have h : (x &&& 1).toBitVec = 0#32 ∨ (x &&& 1).toBitVec = 1#32 := by
    rw [Int32.toBitVec_and]
    have e : (1 : Int32).toBitVec = 1#32 := rfl
    rw [e]
    generalize x.toBitVec = y
    have h2 : (y &&& 1#32).toNat < 2 := by
      rw [BitVec.toNat_and]
      exact Nat.lt_of_le_of_lt Nat.and_le_right (by decide)
    rcases (show (y &&& 1#32).toNat = 0 ∨ (y &&& 1#32).toNat = 1 by omega) with h | h
    · exact Or.inl (BitVec.eq_of_toNat_eq h)
    · exact Or.inr (BitVec.eq_of_toNat_eq h)
  rcases h with h | h
  · exact Or.inl (Int32.toBitVec_inj.mp h)
  · exact Or.inr (Int32.toBitVec_inj.mp h)
/-- class's way and reference's way of adding up a set -/
theorem tie_run (M0 : wS) (v : Int32) (k : Nat) (hk : k < 7) : ∀ (n t : Nat) (q : Int32 × Int32 × Int32 × Int32) (p : Int32 × Int32 × Int32) (c : Nat), t + n ≤ 7 → c ≤ t → q.2.2.1 = nI c → q.1 = p.1 → q.2.1 = p.2.1 → (c = 0 → p.2.2 = 1) → (0 < c → bI (q.2.2.2 = nI k) = p.2.2) →
    ∃ c', (tRun M0 v t n q).2.2.1 = nI c' ∧ c' ≤ t + n ∧ (tRun M0 v t n q).1 = (aRun M0 v (nI k) t n p).1 ∧ (tRun M0 v t n q).2.1 = (aRun M0 v (nI k) t n p).2.1 ∧ (0 < c' → bI ((tRun M0 v t n q).2.2.2 = nI k) = (aRun M0 v (nI k) t n p).2.2) := by
  intro n
  induction n with
  | zero => intro t q p c h1 h2 h3 h4 h5 h6 h7; exact ⟨c, h3, by omega, h4, h5, h7⟩
  | succ n ih =>
    intro t q p c h1 h2 h3 h4 h5 h6 h7
    unfold tRun aRun
    rcases bit01 v t with hb | hb
    · rw [show tStep M0 v t q = q by rw [tStep, if_pos hb], show aStep M0 v (nI k) t p = p by rw [aStep, if_neg (by rw [hb]; decide)]]
      obtain ⟨c', e1, e2, e3⟩ := ih (t + 1) q p c (by omega) (by omega) h3 h4 h5 h6 h7
      exact ⟨c', e1, by omega, e3⟩
    · rw [show tStep M0 v t q = (q.1 + M0.1 6 t 0, q.2.1 + M0.1 6 t 1, q.2.2.1 + 1, if q.2.2.1 = 0 ∨ q.2.2.2 = M0.1 29 0 t then M0.1 29 0 t else -1) by rw [tStep, if_neg (by rw [hb]; decide)], show aStep M0 v (nI k) t p = (p.1 + M0.1 6 t 0, p.2.1 + M0.1 6 t 1, if M0.1 29 0 t = nI k then p.2.2 else 0) by rw [aStep, if_pos hb]]
      have hnk : ¬ (-1 : Int32) = nI k := fun e => by
        have := nI_pos' (n := k) (by omega)
        rw [← e] at this
        exact absurd this (by decide)
      obtain ⟨c', e1, e2, e3⟩ := ih (t + 1) (q.1 + M0.1 6 t 0, q.2.1 + M0.1 6 t 1, q.2.2.1 + 1, if q.2.2.1 = 0 ∨ q.2.2.2 = M0.1 29 0 t then M0.1 29 0 t else -1) (p.1 + M0.1 6 t 0, p.2.1 + M0.1 6 t 1, if M0.1 29 0 t = nI k then p.2.2 else 0) (c + 1) (by omega) (by omega) (by simp only []; rw [h3, nI_1]) (by simp only []; rw [h4]) (by simp only []; rw [h5]) (fun e => absurd e (by omega)) (fun _ => by
        simp only []
        by_cases c0 : c = 0
        · rw [if_pos (Or.inl (by rw [h3, c0]; rfl)), h6 c0]
          by_cases ho : M0.1 29 0 t = nI k
          · rw [if_pos ho, ← bI_t ho]
          · rw [if_neg ho, ← bI_f ho]
        · have hc1 : ¬ q.2.2.1 = 0 := by
            rw [h3]
            exact nI_ne0 (by omega) (by omega)
          have h8 := h7 (by omega)
          by_cases ho : M0.1 29 0 t = nI k
          · rw [if_pos ho, ← h8]
            by_cases hq : q.2.2.2 = nI k
            · rw [if_pos (Or.inr (hq.trans ho.symm)), ← bI_t ho, ← bI_t hq]
            · rw [if_neg (fun e => e.elim hc1 (fun y => hq (y.trans ho))), ← bI_f hnk, ← bI_f hq]
          · rw [if_neg ho]
            by_cases hq : q.2.2.1 = 0 ∨ q.2.2.2 = M0.1 29 0 t
            · rw [if_pos hq, ← bI_f ho]
            · rw [if_neg hq, ← bI_f hnk])
      exact ⟨c', e1, by omega, e3⟩
theorem shw_tie {M0 : wS} {nt : Nat} (hnt : nt ≤ 7) {v : Int32} (hc : ¬ (kTieQ M0 nt v).2.2.1 = 0) : shw M0 (kTieM M0 nt v) nt v := by
  refine ⟨kShow_st _ _ _ _, fun k hk => ?_⟩
  obtain ⟨c', e1, e2, e3, e4, e5⟩ := tie_run M0 v k hk nt 0 (0, 0, 0, -1) (0, 0, 1) 0 (by omega) (Nat.le_refl _) rfl rfl rfl (fun _ => rfl) (fun e => absurd e (by decide))
  have h0 : 0 < c' := by
    rcases Nat.eq_zero_or_pos c' with h | h
    · exact absurd (by unfold kTieQ; rw [e1, h]; rfl) hc
    · exact h
  refine ⟨?_, ?_, ?_⟩
  · rw [← e3]
    show (kShow M0 _ _ _).1 14 0 1 = _
    simp [kShow, mset_at, kTieQ]
  · rw [← e4]
    show (kShow M0 _ _ _).1 14 0 2 = _
    simp [kShow, mset_at, kTieQ]
  · rw [← e5 h0]
    show bI ((kShow M0 _ _ _).1 13 0 2 = nI k) = _
    rw [show (kShow M0 (kTieQ M0 nt v).1 (kTieQ M0 nt v).2.1 (kTieQ M0 nt v).2.2.2).1 13 0 2 = (kTieQ M0 nt v).2.2.2 by simp [kShow, mset_at]]
    rfl
/-- one thing alone -/
theorem aRun_none (M0 : wS) (v b : Int32) : ∀ (n t : Nat) (q : Int32 × Int32 × Int32), (∀ j, t ≤ j → j < t + n → (v >>> (nI j &&& 31)) &&& 1 = 0) → aRun M0 v b t n q = q := by
  intro n
  induction n with
  | zero => intro t q _; rfl
  | succ n ih =>
    intro t q h
    unfold aRun
    rw [aStep, if_neg (by rw [h t (Nat.le_refl _) (by omega)]; decide)]
    exact ih (t + 1) q (fun j h1 h2 => h j (by omega) (by omega))
theorem aRun_app (M0 : wS) (v b : Int32) : ∀ (n m t : Nat) (q : Int32 × Int32 × Int32), aRun M0 v b t (n + m) q = aRun M0 v b (t + n) m (aRun M0 v b t n q) := by
  intro n
  induction n with
  | zero => intro m t q; rw [Nat.zero_add, Nat.add_zero]; rfl
  | succ n ih =>
    intro m t q
    rw [show n + 1 + m = (n + m) + 1 by omega]
    show aRun M0 v b (t + 1) (n + m) (aStep M0 v b t q) = aRun M0 v b (t + (n + 1)) m (aRun M0 v b (t + 1) n (aStep M0 v b t q))
    rw [ih, show t + 1 + n = t + (n + 1) by omega]
theorem one_bit : ∀ t, t < 7 → ∀ j, j < 7 → ((((1 : Int32) <<< (nI t &&& 31)) >>> (nI j &&& 31)) &&& 1) = (if j = t then 1 else 0) := by decide +kernel
theorem shw_alone {M0 : wS} {nt t : Nat} (hnt : nt ≤ 7) (ht : t < nt) : shw M0 (kAlone M0 t) nt ((1 : Int32) <<< (nI t &&& 31)) := by
  refine ⟨kShow_st _ _ _ _, fun k hk => ?_⟩
  have e : aRun M0 ((1 : Int32) <<< (nI t &&& 31)) (nI k) 0 nt (0, 0, 1) = (M0.1 6 t 0, M0.1 6 t 1, bI (M0.1 29 0 t = nI k)) := by
    have h1 : nt = t + (1 + (nt - t - 1)) := by omega
    rw [h1, aRun_app, aRun_none M0 _ _ t 0 _ (fun j h1 h2 => by rw [one_bit t (by omega) j (by omega), if_neg (by omega)]), Nat.zero_add, aRun_app, aRun_none M0 _ _ _ (t + 1) _ (fun j h1 h2 => by rw [one_bit t (by omega) j (by omega), if_neg (by omega)])]
    show aStep M0 _ (nI k) t (0, 0, 1) = _
    rw [aStep, if_pos (by rw [one_bit t (by omega) t (by omega), if_pos rfl])]
    rw [Int32.zero_add, Int32.zero_add]
    rfl
  rw [e]
  refine ⟨?_, ?_, ?_⟩
  · show (kShow M0 _ _ _).1 14 0 1 = _
    simp [kShow, mset_at]
  · show (kShow M0 _ _ _).1 14 0 2 = _
    simp [kShow, mset_at]
  · show bI ((kShow M0 _ _ _).1 13 0 2 = nI k) = _
    rw [show (kShow M0 (M0.1 6 t 0) (M0.1 6 t 1) (M0.1 29 0 t)).1 13 0 2 = M0.1 29 0 t by simp [kShow, mset_at]]
section S58
variable {l : Launch} {D : va_G} {cy : Nat → ClassId} {ad : Nat → Nat → Nat} {G d : Nat}
theorem lp_X10_about {p : Program} {e : Env} {s : State} {m : MethodId} {args : Array Value} {below : List Frame} {meth : Method} {c : Code} (C : CX p s m args c cX10_about 5 "CostsAgeModel" D cy ad G (wA ad G) (Rm d) d 0 0) (hr : meth.sig.returnType = none) (hlk : meth.locks = false) (hG : 56 ≤ G) {M0 Ms : wS} {nb nt r e1 e2 e3 : Nat} (hC : rC M0 Ms nb nt r e1 e2 e3) (v n0 a0 : Int32) {k : Nat} (hk : k < 7) (Qf : wS → Prop) : ∀ (n t : Nat) (q : Int32 × Int32 × Int32) (M : wS), t + n = nt → frK 36 Ms M → M.1 30 0 22 = a0 → M.1 30 0 23 = q.1 → M.1 30 0 24 = q.2.1 → M.1 30 0 27 = q.2.2 → (∀ M', frK 36 Ms M' → M'.1 30 0 22 = a0 → M'.1 30 0 23 = (aRun M0 v (nI k) t n q).1 → M'.1 30 0 24 = (aRun M0 v (nI k) t n q).2.1 → M'.1 30 0 27 = (aRun M0 v (nI k) t n q).2.2 → V p l e (Rm d) s m args below meth c 5 D cy ad G (wA ad G) 0 0 (MQ below (wQ D cy ad G (rV Qf)) args s 0 0 (wA ad G)) 101 [(0, .ref (ad 30 0)), (1, .int (nI k)), (2, .int v), (3, .int n0), (4, .int (nI nt))] [] M') → V p l e (Rm d) s m args below meth c 5 D cy ad G (wA ad G) 0 0 (MQ below (wQ D cy ad G (rV Qf)) args s 0 0 (wA ad G)) 28 [(0, .ref (ad 30 0)), (1, .int (nI k)), (2, .int v), (3, .int n0), (4, .int (nI t))] [] M := by
  have hn7 := hC.1.2.1.2
  intro n
  induction n with
  | zero =>
    intro t q M ht hF h22 h23 h24 h27 hQ
    have hm := (hC.q (hF.q (by decide))).2.1.1.2
    obtain rfl : t = nt := by omega
    refine V_iload (pc := 28) C 4 dX10_about_28 rfl ?_
    refine V_aload_n (pc := 30) C 0 dX10_about_30 rfl rfl ?_
    refine get_X10_110 (pc := 31) C (wg hG (by decide) (by decide)) dX10_about_31 ?_
    refine V_icmp_ge (tgt := 101) (pc := 34) C dX10_about_34 (by decide) (fun h_34 => ?_) (fun h_34 => ?_)
    · exact hQ M hF h22 h23 h24 h27
    · rw [hm] at h_34
      exact absurd (nI_le (Nat.le_refl _) (by omega)) h_34
  | succ n ih =>
    intro t q M ht hF h22 h23 h24 h27 hQ
    have hc := hC.q (hF.q (by decide))
    have hm := hc.2.1.1.2
    have hw := (hc.2.1.2.2 t (by omega)).2
    have k24 : ∀ x, (mset M 30 0 23 x).1 30 0 24 = q.2.1 := fun x => by rw [mset_at, if_neg (by omega)]; exact h24
    have k40 : ∀ x, (mset M 30 0 23 x).1 40 0 t = M0.1 6 t 1 := fun x => by rw [mset_at, if_neg (by omega)]; exact hw.2.1
    have k41 : ∀ x y, (mset (mset M 30 0 23 x) 30 0 24 y).1 41 0 t = M0.1 29 0 t := fun x y => by rw [mset_at, if_neg (by omega), mset_at, if_neg (by omega)]; exact hw.2.2
    unfold aRun at hQ
    refine V_iload (pc := 28) C 4 dX10_about_28 rfl ?_
    refine V_aload_n (pc := 30) C 0 dX10_about_30 rfl rfl ?_
    refine get_X10_110 (pc := 31) C (wg hG (by decide) (by decide)) dX10_about_31 ?_
    refine V_icmp_ge (tgt := 101) (pc := 34) C dX10_about_34 (by decide) (fun h_34 => ?_) (fun h_34 => ?_)
    · rw [hm] at h_34
      exact absurd h_34 (nI_ge (by omega) (by omega))
    · refine V_iload_n (pc := 37) C 2 dX10_about_37 rfl rfl ?_
      refine V_iload (pc := 38) C 4 dX10_about_38 rfl ?_
      refine V_ishr (pc := 40) C dX10_about_40 ?_
      refine V_iconst (v := 1) (pc := 41) C dX10_about_41 (by decide) ?_
      refine V_iand (pc := 42) C dX10_about_42 ?_
      refine V_iconst (v := 1) (pc := 43) C dX10_about_43 (by decide) ?_
      refine V_icmp_ne (tgt := 95) (pc := 44) C dX10_about_44 (by decide) (fun h_44 => ?_) (fun h_44 => ?_)
      · rw [show aStep M0 v (nI k) t q = q by rw [aStep, if_neg h_44]] at hQ
        refine Vs_iinc (v := nI (t + 1)) (lv' := [(0, _), (1, _), (2, _), (3, _), (4, _)]) (pc := 95) C 4 dX10_about_95 rfl (by decide) rfl (nI_i1 (t)) rfl ?_
        refine V_goto (tgt := 28) (pc := 98) C dX10_about_98 (by decide) ?_
        exact ih (t + 1) q M (by omega) hF h22 h23 h24 h27 hQ
      · rw [show aStep M0 v (nI k) t q = (q.1 + M0.1 6 t 0, q.2.1 + M0.1 6 t 1, if M0.1 29 0 t = nI k then q.2.2 else 0) by rw [aStep, if_pos h_44]] at hQ
        refine V_aload_n (pc := 47) C 0 dX10_about_47 rfl rfl ?_
        refine V_dup (pc := 48) C dX10_about_48 rfl ?_
        refine get_X10_214 (pc := 49) C (wg hG (by decide) (by decide)) dX10_about_49 ?_
        refine V_aload_n (pc := 52) C 0 dX10_about_52 rfl rfl ?_
        refine get_X10_38 (pc := 53) C (wg hG (by decide) (by decide)) dX10_about_53 ?_
        refine V_iload (pc := 56) C 4 dX10_about_56 rfl ?_
        refine V_iald (pc := 58) C (t) rfl (by omega) (Nat.le_of_ble_eq_true rfl) (wg hG (by decide) (by decide)) wF_39 dX10_about_58 ?_
        refine V_iadd (pc := 59) C dX10_about_59 ?_
        refine put_X10_214 (pc := 60) C (wg hG (by decide) (by decide)) dX10_about_60 ?_
        rw [h23, hw.1]
        refine V_aload_n (pc := 63) C 0 dX10_about_63 rfl rfl ?_
        refine V_dup (pc := 64) C dX10_about_64 rfl ?_
        refine get_X10_217 (pc := 65) C (wg hG (by decide) (by decide)) dX10_about_65 ?_
        refine V_aload_n (pc := 68) C 0 dX10_about_68 rfl rfl ?_
        refine get_X10_41 (pc := 69) C (wg hG (by decide) (by decide)) dX10_about_69 ?_
        refine V_iload (pc := 72) C 4 dX10_about_72 rfl ?_
        refine V_iald (pc := 74) C (t) rfl (by omega) (Nat.le_of_ble_eq_true rfl) (wg hG (by decide) (by decide)) wF_40 dX10_about_74 ?_
        refine V_iadd (pc := 75) C dX10_about_75 ?_
        refine put_X10_217 (pc := 76) C (wg hG (by decide) (by decide)) dX10_about_76 ?_
        rw [k24, k40]
        refine V_aload_n (pc := 79) C 0 dX10_about_79 rfl rfl ?_
        refine get_X10_44 (pc := 80) C (wg hG (by decide) (by decide)) dX10_about_80 ?_
        refine V_iload (pc := 83) C 4 dX10_about_83 rfl ?_
        refine V_iald (pc := 85) C (t) rfl (by omega) (Nat.le_of_ble_eq_true rfl) (wg hG (by decide) (by decide)) wF_41 dX10_about_85 ?_
        refine V_iload_n (pc := 86) C 1 dX10_about_86 rfl rfl ?_
        rw [k41]
        refine V_icmp_eq (tgt := 95) (pc := 87) C dX10_about_87 (by decide) (fun h_87 => ?_) (fun h_87 => ?_)
        · rw [if_pos h_87] at hQ
          refine Vs_iinc (v := nI (t + 1)) (lv' := [(0, _), (1, _), (2, _), (3, _), (4, _)]) (pc := 95) C 4 dX10_about_95 rfl (by decide) rfl (nI_i1 (t)) rfl ?_
          refine V_goto (tgt := 28) (pc := 98) C dX10_about_98 (by decide) ?_
          refine ih (t + 1) (q.1 + M0.1 6 t 0, q.2.1 + M0.1 6 t 1, q.2.2) _ (by omega) ((hF.tr (frK.set _ (by omega))).tr (frK.set _ (by omega))) ?_ ?_ ?_ ?_ hQ
          · rw [mset_at, if_neg (by omega), mset_at, if_neg (by omega)]; exact h22
          · rw [mset_at, if_neg (by omega), mset_at, if_pos ⟨rfl, rfl, rfl⟩]
          · rw [mset_at, if_pos ⟨rfl, rfl, rfl⟩]
          · rw [mset_at, if_neg (by omega), mset_at, if_neg (by omega)]; exact h27
        · rw [if_neg h_87] at hQ
          refine V_aload_n (pc := 90) C 0 dX10_about_90 rfl rfl ?_
          refine V_iconst (v := 0) (pc := 91) C dX10_about_91 (by decide) ?_
          refine put_X10_226 (pc := 92) C (wg hG (by decide) (by decide)) dX10_about_92 ?_
          refine Vs_iinc (v := nI (t + 1)) (lv' := [(0, _), (1, _), (2, _), (3, _), (4, _)]) (pc := 95) C 4 dX10_about_95 rfl (by decide) rfl (nI_i1 (t)) rfl ?_
          refine V_goto (tgt := 28) (pc := 98) C dX10_about_98 (by decide) ?_
          refine ih (t + 1) (q.1 + M0.1 6 t 0, q.2.1 + M0.1 6 t 1, 0) _ (by omega) (((hF.tr (frK.set _ (by omega))).tr (frK.set _ (by omega))).tr (frK.set _ (by omega))) ?_ ?_ ?_ ?_ hQ
          · rw [mset_at, if_neg (by omega), mset_at, if_neg (by omega), mset_at, if_neg (by omega)]; exact h22
          · rw [mset_at, if_neg (by omega), mset_at, if_neg (by omega), mset_at, if_pos ⟨rfl, rfl, rfl⟩]
          · rw [mset_at, if_neg (by omega), mset_at, if_pos ⟨rfl, rfl, rfl⟩]
          · rw [mset_at, if_pos ⟨rfl, rfl, rfl⟩]
theorem r_about (hG : 56 ≤ G) (hd : 1 ≤ d) {M0 M N : wS} {nb nt r e1 e2 e3 : Nat} (hC : rC M0 M nb nt r e1 e2 e3) {v : Int32} (hN : shw M0 N nt v) {k : Nat} (hk : k < 7) {n : Int32} (hn : 0 ≤ n ∧ n ≤ 103) : Ctr l D cy ad G d yX10_about cX10_about 5 none [.ref (ad 30 0), .int (nI k), .int v, .int n] M (rV fun M' => frK 36 M M' ∧ ∀ j, j < 6 → M'.1 30 0 (22 + j) = kEnv N k (M0.1 28 0 k) n j) := by
  have hs := hN.2 k hk
  have e5 : N.1 5 k 1 = M0.1 5 k 1 := by rw [hN.1.1 5 k (by decide) (by decide) (by decide)]
  have e27 : N.1 27 0 k = M0.1 27 0 k := by rw [hN.1.1 27 0 (by decide) (by decide) (by decide)]
  have e26 : N.1 26 0 4 = M0.1 26 0 4 := by rw [hN.1.1 26 0 (by decide) (by decide) (by decide)]
  have hn7 := hC.1.2.1.2
  refine Ctr.of (lv0 := [(0, _), (1, _), (2, _), (3, _)]) (by decide) (Nat.le_of_ble_eq_true rfl) rfl ?_
  intro p e s m args below meth c C hr hlk _
  have C : CX p s m args c cX10_about 5 "CostsAgeModel" D cy ad G (wA ad G) (Rm d) d 0 0 := C
  refine V_aload_n (pc := 0) C 0 dX10_about_0 rfl rfl ?_
  refine V_aload_n (pc := 1) C 0 dX10_about_1 rfl rfl ?_
  refine V_iload_n (pc := 2) C 1 dX10_about_2 rfl rfl ?_
  refine V_iload_n (pc := 3) C 3 dX10_about_3 rfl rfl ?_
  refine call_X10_275 (pc := 4) C (c_X10_yearsIn (d := d - 1) hG hC hk hn) (by omega) (wg hG (by decide) (by decide)) (Nat.le_of_ble_eq_true rfl) dX10_about_4 (fun x_4 M_4 h_4 => ?_)
  obtain ⟨e_4, rfl⟩ := h_4
  have e_4 := e_4.symm
  subst e_4
  refine put_X10_211 (pc := 7) C (wg hG (by decide) (by decide)) dX10_about_7 ?_
  refine V_aload_n (pc := 10) C 0 dX10_about_10 rfl rfl ?_
  refine V_iconst (v := 0) (pc := 11) C dX10_about_11 (by decide) ?_
  refine put_X10_214 (pc := 12) C (wg hG (by decide) (by decide)) dX10_about_12 ?_
  refine V_aload_n (pc := 15) C 0 dX10_about_15 rfl rfl ?_
  refine V_iconst (v := 0) (pc := 16) C dX10_about_16 (by decide) ?_
  refine put_X10_217 (pc := 17) C (wg hG (by decide) (by decide)) dX10_about_17 ?_
  refine V_aload_n (pc := 20) C 0 dX10_about_20 rfl rfl ?_
  refine V_iconst (v := 1) (pc := 21) C dX10_about_21 (by decide) ?_
  refine put_X10_226 (pc := 22) C (wg hG (by decide) (by decide)) dX10_about_22 ?_
  refine V_iconst (v := 0) (pc := 25) C dX10_about_25 (by decide) ?_
  refine Vs_istore (lv' := [(0, _), (1, _), (2, _), (3, _), (4, _)]) (pc := 26) C dX10_about_26 (by decide) rfl rfl ?_
  refine lp_X10_about C hr hlk hG hC v n (pAgeC (M0.1 5 k 1) (M0.1 27 0 k) (M0.1 26 0 4) n) hk _ nt 0 (0, 0, 1) _ (by omega) ((((frK.set _ (by omega)).tr (frK.set _ (by omega))).tr (frK.set _ (by omega))).tr (frK.set _ (by omega))) (by simp [mset_at]) (by simp [mset_at]) (by simp [mset_at]) (by simp [mset_at]) (fun M' hF h22 h23 h24 h27 => ?_)
  have hc := hC.q (hF.q (by decide))
  have hw4 : M'.1 30 0 18 = M0.1 26 0 4 := hc.2.1.2.1.2.1
  have hf4 : ∀ x, (mset M' 30 0 25 x).1 37 0 k = M0.1 28 0 k := fun x => by rw [mset_at, if_neg (by omega)]; exact (hc.2.1.2.2 k hk).1.2.2.2.1
  refine V_aload_n (pc := 101) C 0 dX10_about_101 rfl rfl ?_
  refine V_aload_n (pc := 102) C 0 dX10_about_102 rfl rfl ?_
  refine get_X10_141 (pc := 103) C (wg hG (by decide) (by decide)) dX10_about_103 ?_
  refine V_iload_n (pc := 106) C 3 dX10_about_106 rfl rfl ?_
  refine V_iadd (pc := 107) C dX10_about_107 ?_
  refine V_bipush (v := 52) (pc := 108) C dX10_about_108 (by decide) ?_
  refine V_irem (pc := 110) C dX10_about_110 (by decide) ?_
  refine put_X10_220 (pc := 111) C (wg hG (by decide) (by decide)) dX10_about_111 ?_
  rw [hw4]
  refine V_aload_n (pc := 114) C 0 dX10_about_114 rfl rfl ?_
  refine V_aload_n (pc := 115) C 0 dX10_about_115 rfl rfl ?_
  refine get_X10_32 (pc := 116) C (wg hG (by decide) (by decide)) dX10_about_116 ?_
  refine V_iload_n (pc := 119) C 1 dX10_about_119 rfl rfl ?_
  refine V_iald (pc := 120) C (k) rfl hk (Nat.le_of_ble_eq_true rfl) (wg hG (by decide) (by decide)) wF_37 dX10_about_120 ?_
  refine put_X10_223 (pc := 121) C (wg hG (by decide) (by decide)) dX10_about_121 ?_
  rw [hf4]
  refine V_vret (pc := 124) C hr hlk dX10_about_124 ⟨rfl, ?_⟩
  refine ⟨(hF.tr (frK.set _ (by omega))).tr (frK.set _ (by omega)), fun j hj => ?_⟩
  match j, hj with
  | 0, _ => rw [mset_at, if_neg (by omega), mset_at, if_neg (by omega), h22]; simp [kEnv, upd, e5, e27, e26]
  | 1, _ => rw [mset_at, if_neg (by omega), mset_at, if_neg (by omega), h23, ← hs.1]; simp [kEnv, upd]
  | 2, _ => rw [mset_at, if_neg (by omega), mset_at, if_neg (by omega), h24, ← hs.2.1]; simp [kEnv, upd]
  | 3, _ => rw [mset_at, if_neg (by omega), mset_at, if_pos ⟨rfl, rfl, rfl⟩]; simp [kEnv, upd, e26, pWeek]
  | 4, _ => rw [mset_at, if_pos ⟨rfl, rfl, rfl⟩]; simp [kEnv, upd]
  | 5, _ => rw [mset_at, if_neg (by omega), mset_at, if_neg (by omega), h27, ← hs.2.2]; simp [kEnv, upd]
end S58
