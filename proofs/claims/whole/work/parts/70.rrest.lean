/-! EARNS: by bars (the class), by the BEST (the reference) -/
theorem bar_le {cst : Nat → Int32} {b : Nat} {v : Int32} (hr : ∀ c, cst c < 0 ∨ (0 ≤ cst c ∧ cst c ≤ 5000)) : ∀ (n c : Nat) (bar : Int32), (v ≤ barF cst b c n bar ↔ v ≤ bar ∧ ∀ j, c ≤ j → j < c + n → ¬ j = b → cst j < 0 ∨ (if b ≤ j then v ≤ cst j else v ≤ cst j - 1)) := by
  intro n
  induction n with
  | zero => intro c bar; exact ⟨fun h => ⟨h, fun j h1 h2 => by omega⟩, fun h => h.1⟩
  | succ n ih =>
    intro c bar
    unfold barF
    rw [ih (c + 1)]
    have key : v ≤ bStep cst b c bar ↔ v ≤ bar ∧ (¬ c = b → cst c < 0 ∨ (if b ≤ c then v ≤ cst c else v ≤ cst c - 1)) := by
      unfold bStep
      by_cases e : c = b
      · rw [if_pos e]
        exact ⟨fun h => ⟨h, fun z => absurd e z⟩, fun h => h.1⟩
      · rw [if_neg e]
        by_cases e2 : cst c < 0
        · rw [if_pos e2]
          exact ⟨fun h => ⟨h, fun _ => Or.inl e2⟩, fun h => h.1⟩
        · rw [if_neg e2]
          generalize hw : (if b ≤ c then cst c else cst c - 1) = w
          have hw2 : (if b ≤ c then v ≤ cst c else v ≤ cst c - 1) ↔ v ≤ w := by
            rw [← hw]
            split <;> exact Iff.rfl
          rw [hw2]
          by_cases e3 : w < bar
          · rw [if_pos e3]
            exact ⟨fun h => ⟨Int32.le_trans h (Int32.le_of_lt e3), fun _ => Or.inr h⟩, fun h => (h.2 e).resolve_left e2⟩
          · rw [if_neg e3]
            exact ⟨fun h => ⟨h, fun _ => Or.inr (Int32.le_trans h (Int32.not_lt.mp e3))⟩, fun h => h.1⟩
    rw [key]
    constructor
    · rintro ⟨⟨h1, h2⟩, h3⟩
      refine ⟨h1, fun j j1 j2 j3 => ?_⟩
      by_cases e : j = c
      · rw [e] at j3 ⊢
        exact h2 j3
      · exact h3 j (by omega) (by omega) j3
    · rintro ⟨h1, h2⟩
      exact ⟨⟨h1, fun e => h2 c (Nat.le_refl _) (by omega) e⟩, fun j j1 j2 j3 => h2 j (by omega) (by omega) j3⟩
theorem lt_pred {v w : Int32} (hw : 0 ≤ w ∧ w ≤ 5000) : v ≤ w - 1 ↔ v < w := by
  obtain ⟨h1, h2⟩ := hw
  constructor
  · intro h; (simp only [i32_eq, Int32.le_iff_toInt_le, Int32.lt_iff_toInt_lt, Int32.not_le, Int32.not_lt, Int32.toInt_add, Int32.toInt_sub, Int32.toInt_mul, Int32.toInt_neg, Int32.toInt_div, tdv2, tdv4, tdv10, tdv52, tdv100, nI_T, apply_ite Int32.toInt, Int.bmod, Int32.reduceToInt] at *; omega)
  · intro h; (simp only [i32_eq, Int32.le_iff_toInt_le, Int32.lt_iff_toInt_lt, Int32.not_le, Int32.not_lt, Int32.toInt_add, Int32.toInt_sub, Int32.toInt_mul, Int32.toInt_neg, Int32.toInt_div, tdv2, tdv4, tdv10, tdv52, tdv100, nI_T, apply_ite Int32.toInt, Int.bmod, Int32.reduceToInt] at *; omega)
theorem best_iff {c : Nat → Int32} {nb b : Nat} {A x be : Int32} (hb : b < nb) (hn7 : nb ≤ 7) (hr : ∀ k, c k < 0 ∨ (0 ≤ c k ∧ c k ≤ 5000)) (h : bRel c nb A x be) : x = nI b ↔ (0 ≤ c b ∧ c b ≤ barF c b 0 nb 1000000) := by
  rw [bar_le hr]
  rcases h with ⟨h1, h2, h3⟩ | ⟨h1, h2, j, j1, j2, j3, j4, j5⟩
  · constructor
    · intro e
      exact absurd (e.symm.trans h2) (nIm1 (by omega))
    · rintro ⟨e, _⟩
      exact absurd (h3 b hb) (Int32.not_lt.mpr e)
  · constructor
    · intro e
      have ej : j = b := (nI_eq (by omega) (by omega)).mp (j2.symm.trans e)
      subst ej
      rw [j3]
      refine ⟨h1, ?_, fun i _ i2 i3 => ?_⟩
      · have := (hr j).resolve_left (by rw [j3]; exact Int32.not_lt.mpr h1)
        rw [j3] at this
        exact Int32.le_trans this.2 (by decide)
      · rcases j5 i (by omega) with y | y
        · exact Or.inl y
        · right
          by_cases e2 : j ≤ i
          · rw [if_pos e2]; exact y
          · rw [if_neg e2]
            have hri := (hr i).resolve_left (Int32.not_lt.mpr (Int32.le_trans h1 y))
            rw [lt_pred hri]
            exact Int32.lt_of_le_of_ne y (fun z => j4 i (by omega) z.symm)
    · rintro ⟨e1, e2, e3⟩
      rw [j2]
      apply congrArg
      have hAb : A ≤ c b := (j5 b hb).resolve_left (Int32.not_lt.mpr e1)
      rcases Nat.lt_trichotomy j b with y | y | y
      · have := (e3 j (Nat.zero_le _) (by omega) (by omega)).resolve_left (by rw [j3]; exact Int32.not_lt.mpr h1)
        rw [if_neg (by omega)] at this
        have hrj := (hr j).resolve_left (by rw [j3]; exact Int32.not_lt.mpr h1)
        rw [lt_pred hrj, j3] at this
        exact absurd hAb (Int32.not_le.mpr this)
      · exact y
      · have := (e3 j (Nat.zero_le _) (by omega) (by omega)).resolve_left (by rw [j3]; exact Int32.not_lt.mpr h1)
        rw [if_pos (by omega), j3] at this
        exact absurd (Int32.le_antisymm this hAb) (j4 b y)
theorem barF_off {f g : Nat → Int32} {b : Nat} : ∀ (n c : Nat) (bar : Int32), (∀ c', c ≤ c' → c' < c + n → ¬ c' = b → f c' = g c') → barF f b c n bar = barF g b c n bar := by
  intro n
  induction n with
  | zero => intro c bar _; rfl
  | succ n ih =>
    intro c bar h
    unfold barF
    have e : bStep f b c bar = bStep g b c bar := by
      unfold bStep
      by_cases e : c = b
      · rw [if_pos e, if_pos e]
      · rw [if_neg e, if_neg e, h c (Nat.le_refl _) (by omega) e]
    rw [e]
    exact ih (c + 1) _ (fun c' h1 h2 h3 => h c' (by omega) (by omega) h3)
theorem best_iff7 {c : Nat → Int32} {nb b : Nat} {A x be : Int32} (hb : b < nb) (hn7 : nb ≤ 7) (hr : ∀ k, k < 7 → c k < 0 ∨ (0 ≤ c k ∧ c k ≤ 5000)) (h : bRel c nb A x be) : x = nI b ↔ (0 ≤ c b ∧ c b ≤ barF c b 0 nb 1000000) := by
  have hc : ∀ k, k < nb → (fun k => if k < 7 then c k else -1) k = c k := fun k hk => if_pos (by omega)
  have h2 : bRel (fun k => if k < 7 then c k else -1) nb A x be := by
    rcases h with ⟨h1, h2, h3⟩ | ⟨h1, h2, j, j1, j2, j3, j4, j5⟩
    · exact Or.inl ⟨h1, h2, fun i hi => by rw [hc i hi]; exact h3 i hi⟩
    · exact Or.inr ⟨h1, h2, j, j1, j2, by rw [hc j j1]; exact j3, fun i hi => by rw [hc i (by omega)]; exact j4 i hi, fun i hi => by rw [hc i hi]; exact j5 i hi⟩
  have h3 := best_iff hb hn7 (fun k => by
    show (if k < 7 then c k else -1) < 0 ∨ (0 ≤ (if k < 7 then c k else -1) ∧ (if k < 7 then c k else -1) ≤ 5000)
    by_cases e : k < 7
    · rw [if_pos e]; exact hr k e
    · rw [if_neg e]; exact Or.inl (by decide)) h2
  rw [barF_off (g := c) nb 0 _ (fun c' _ h5 _ => hc c' (by omega)), show (if b < 7 then c b else -1) = c b from if_pos (by omega)] at h3
  exact h3
section S70
variable {l : Launch} {D : va_G} {cy : Nat → ClassId} {ad : Nat → Nat → Nat} {G d : Nat}
/-- the class's memory, with these fees asked -/
def mFee (M0 : wS) (A : Nat → Int32) : wS := mrow M0 28 0 A
theorem mFee_ne (M0 : wS) (A : Nat → Int32) {g i : Nat} (h : g ≠ 28) : (mFee M0 A).1 g i = M0.1 g i := mrow_ne M0 28 0 A (fun e => h e.1)
theorem mFee_at (M0 : wS) (A : Nat → Int32) : (mFee M0 A).1 28 0 = A := mrow_self M0 28 0 A
theorem kCost_fee (M0 : wS) (A : Nat → Int32) (t r e1 e2 k : Nat) (fee n : Int32) : kCost (kAlone (mFee M0 A) t) r e1 e2 k fee n = kCost (kAlone M0 t) r e1 e2 k fee n := by
  have e : kAlone (mFee M0 A) t = mrow (kAlone M0 t) 28 0 A := by
    refine Prod.ext ?_ rfl
    funext g i j
    unfold kAlone kShow mFee
    simp only [mset_at, mrow_at]
    by_cases h1 : g = 13 ∧ i = 0 ∧ j = 2
    · obtain ⟨rfl, rfl, rfl⟩ := h1; simp
    · by_cases h2 : g = 14 ∧ i = 0 ∧ j = 2
      · obtain ⟨rfl, rfl, rfl⟩ := h2; simp
      · by_cases h3 : g = 14 ∧ i = 0 ∧ j = 1
        · obtain ⟨rfl, rfl, rfl⟩ := h3; simp
        · simp [h1, h2, h3]
  rw [e]
  have n5 : ∀ g i, g ≠ 28 → (mrow (kAlone M0 t) 28 0 A).1 g i = (kAlone M0 t).1 g i := fun g i h => mrow_ne _ _ _ _ (fun z => h z.1)
  have hkE : kEnv (mrow (kAlone M0 t) 28 0 A) k fee n = kEnv (kAlone M0 t) k fee n := by
    unfold kEnv
    rw [n5 5 k (by decide), n5 27 0 (by decide), n5 26 0 (by decide), n5 14 0 (by decide), n5 13 0 (by decide)]
  unfold kCost kPrice
  rw [hkE, n5 5 k (by decide), n5 27 0 (by decide), n5 26 0 (by decide), n5 8 r (by decide), n5 13 0 (by decide)]
theorem r_bestOf2 (hG : 56 ≤ G) (hd : 44 ≤ d) {M0 M N : wS} {nb nt r e1 e2 e3 : Nat} (hC : rC M0 M nb nt r e1 e2 e3) {v : Int32} (hN : shw M0 N nt v) {wk : Int32} (hn : 0 ≤ wk ∧ wk ≤ 103) : Ctr l D cy ad G d yX10_bestOf cX10_bestOf 6 (some .int) [.ref (ad 30 0), .int v, .int wk] M (rI fun x M' => frK 37 M M' ∧ bRel (fun k => kCost N r e1 e2 k (N.1 28 0 k) wk) nb (kLeastF (fun k => kCost N r e1 e2 k (N.1 28 0 k) wk) 0 nb (-5)) x (M'.1 30 0 37)) := by
  refine Ctr.of (lv0 := [(0, _), (1, _), (2, _)]) (by decide) (Nat.le_of_ble_eq_true rfl) rfl ?_
  intro p e s m args below meth c C hr hlk _
  have C : CX p s m args c cX10_bestOf 6 "CostsAgeModel" D cy ad G (wA ad G) (Rm d) d 0 0 := C
  refine V_iconst (v := -1) (pc := 0) C dX10_bestOf_0 (by decide) ?_
  refine Vs_istore_n (lv' := [(0, _), (1, _), (2, _), (3, _)]) (pc := 1) C dX10_bestOf_1 rfl (by decide) rfl rfl ?_
  refine V_iconst (v := 0) (pc := 2) C dX10_bestOf_2 (by decide) ?_
  refine Vs_istore (lv' := [(0, _), (1, _), (2, _), (3, _), (4, _)]) (pc := 3) C dX10_bestOf_3 (by decide) rfl rfl ?_
  exact lp_X10_bestOf C hr hlk hG hd hC hN hn _ nb 0 M (-5) (-1) (by omega) frK.rf (Or.inl ⟨by decide, rfl, fun i hi => absurd hi (Nat.not_lt_zero _)⟩) (fun M' x h1 h2 => ⟨h1, h2⟩)
theorem lp_X10_earns {p : Program} {e : Env} {s : State} {m : MethodId} {args : Array Value} {below : List Frame} {meth : Method} {c : Code} (C : CX p s m args c cX10_earns 4 "CostsAgeModel" D cy ad G (wA ad G) (Rm d) d 0 0) (hr : meth.sig.returnType = (some .int)) (hlk : meth.locks = false) (hG : 56 ≤ G) (hd : 45 ≤ d) {M0 Ms : wS} {nb nt r e1 e2 e3 b : Nat} {A : Nat → Int32} {f : Int32} (hP : IP M0 nb nt r e1 e2 e3) (hA : ∀ k, k < 7 → 0 ≤ A k ∧ A k ≤ 99) (hC : rC (mFee M0 (upd A b f)) Ms nb nt r e1 e2 e3) (hb : b < nb) (Qf : Int32 → wS → Prop) : ∀ (n t : Nat) (sum : Int32) (M : wS), t + n = nt → frK 37 Ms M → (∀ M', frK 37 Ms M' → Qf (eRunF M0 r e1 e2 b f (sBar M0 nb r e1 e2 A b) t n sum) M') → V p l e (Rm d) s m args below meth c 4 D cy ad G (wA ad G) 0 0 (MQ below (wQ D cy ad G (rI Qf)) args s 0 0 (wA ad G)) 4 [(0, .ref (ad 30 0)), (1, .int (nI b)), (2, .int sum), (3, .int (nI t))] [] M := by
  have hn7 := hP.2.1.2
  have hb7 := hP.1.2
  intro n
  induction n with
  | zero =>
    intro t sum M ht hF hQ
    have hm := (hC.q (hF.q (by decide))).2.1.1.2
    obtain rfl : t = nt := by omega
    refine V_iload_n (pc := 4) C 3 dX10_earns_4 rfl rfl ?_
    refine V_aload_n (pc := 5) C 0 dX10_earns_5 rfl rfl ?_
    refine get_X10_110 (pc := 6) C (wg hG (by decide) (by decide)) dX10_earns_6 ?_
    refine V_icmp_ge (tgt := 59) (pc := 9) C dX10_earns_9 (by decide) (fun h_9 => ?_) (fun h_9 => ?_)
    · refine V_iload_n (pc := 59) C 2 dX10_earns_59 rfl rfl ?_
      refine V_iret (pc := 60) C hr hlk dX10_earns_60 ⟨_, rfl, ?_⟩
      exact hQ M hF
    · rw [hm] at h_9
      exact absurd (nI_le (Nat.le_refl _) (by omega)) h_9
  | succ n ih =>
    intro t sum M ht hF hQ
    have hc := hC.q (hF.q (by decide))
    have hm := hc.2.1.1.2
    have hbo : M.1 30 0 17 = M0.1 26 0 3 := hc.2.1.2.1.1.trans (by rw [mFee_ne _ _ (by decide)])
    have how : M.1 41 0 t = M0.1 29 0 t := ((hc.2.1.2.2 t (by omega)).2.2.2).trans (by rw [mFee_ne _ _ (by decide)])
    have hsh := shw_alone (M0 := mFee M0 (upd A b f)) (nt := nt) (t := t) hn7 (by omega)
    have hQ2 : ∀ M', frK 37 Ms M' → Qf (eRunF M0 r e1 e2 b f (sBar M0 nb r e1 e2 A b) (t + 1) n (eStep M0 r e1 e2 b f (sBar M0 nb r e1 e2 A b) t sum)) M' := hQ
    clear hQ
    refine V_iload_n (pc := 4) C 3 dX10_earns_4 rfl rfl ?_
    refine V_aload_n (pc := 5) C 0 dX10_earns_5 rfl rfl ?_
    refine get_X10_110 (pc := 6) C (wg hG (by decide) (by decide)) dX10_earns_6 ?_
    refine V_icmp_ge (tgt := 59) (pc := 9) C dX10_earns_9 (by decide) (fun h_9 => ?_) (fun h_9 => ?_)
    · rw [hm] at h_9
      exact absurd h_9 (nI_ge (by omega) (by omega))
    · refine V_aload_n (pc := 12) C 0 dX10_earns_12 rfl rfl ?_
      refine get_X10_113 (pc := 13) C (wg hG (by decide) (by decide)) dX10_earns_13 ?_
      refine V_iload_n (pc := 16) C 3 dX10_earns_16 rfl rfl ?_
      refine V_ishr (pc := 17) C dX10_earns_17 ?_
      refine V_iconst (v := 1) (pc := 18) C dX10_earns_18 (by decide) ?_
      refine V_iand (pc := 19) C dX10_earns_19 ?_
      rw [hbo]
      refine V_if_ne (tgt := 53) (pc := 20) C dX10_earns_20 (by decide) (fun h_20 => ?_) (fun h_20 => ?_)
      · have hbt : hasB (M0.1 26 0 3) t := h_20
        have hes : eStep M0 r e1 e2 b f (sBar M0 nb r e1 e2 A b) t sum = sum := by
          unfold eStep
          by_cases z : M0.1 29 0 t = nI b
          · rw [if_pos z]
          · rw [if_neg z, if_pos hbt]
        rw [hes] at hQ2
        refine Vs_iinc (v := nI (t + 1)) (lv' := [(0, _), (1, _), (2, _), (3, _)]) (pc := 53) C 3 dX10_earns_53 rfl (by decide) rfl (nI_i1 (t)) rfl ?_
        refine V_goto (tgt := 4) (pc := 56) C dX10_earns_56 (by decide) ?_
        exact ih (t + 1) sum M (by omega) hF hQ2
      · have hbt : ¬ hasB (M0.1 26 0 3) t := fun e => e h_20
        refine V_aload_n (pc := 23) C 0 dX10_earns_23 rfl rfl ?_
        refine get_X10_44 (pc := 24) C (wg hG (by decide) (by decide)) dX10_earns_24 ?_
        refine V_iload_n (pc := 27) C 3 dX10_earns_27 rfl rfl ?_
        refine V_iald (pc := 28) C (t) rfl (by omega) (Nat.le_of_ble_eq_true rfl) (wg hG (by decide) (by decide)) wF_41 dX10_earns_28 ?_
        refine V_iload_n (pc := 29) C 1 dX10_earns_29 rfl rfl ?_
        rw [how]
        refine V_icmp_eq (tgt := 53) (pc := 30) C dX10_earns_30 (by decide) (fun h_30 => ?_) (fun h_30 => ?_)
        · have hes : eStep M0 r e1 e2 b f (sBar M0 nb r e1 e2 A b) t sum = sum := by
            unfold eStep
            rw [if_pos h_30]
          rw [hes] at hQ2
          refine Vs_iinc (v := nI (t + 1)) (lv' := [(0, _), (1, _), (2, _), (3, _)]) (pc := 53) C 3 dX10_earns_53 rfl (by decide) rfl (nI_i1 (t)) rfl ?_
          refine V_goto (tgt := 4) (pc := 56) C dX10_earns_56 (by decide) ?_
          exact ih (t + 1) sum M (by omega) hF hQ2
        · have hes : eStep M0 r e1 e2 b f (sBar M0 nb r e1 e2 A b) t sum = sum + (if kCost (kAlone M0 t) r e1 e2 b f 0 < 0 then 0 else if sBar M0 nb r e1 e2 A b t < kCost (kAlone M0 t) r e1 e2 b f 0 then 0 else pAsks (M0.1 5 b 0) (M0.1 5 b 2) f) := by
            unfold eStep
            rw [if_neg h_30, if_neg hbt]
          refine V_aload_n (pc := 33) C 0 dX10_earns_33 rfl rfl ?_
          refine V_iconst (v := 1) (pc := 34) C dX10_earns_34 (by decide) ?_
          refine V_iload_n (pc := 35) C 3 dX10_earns_35 rfl rfl ?_
          refine V_ishl (pc := 36) C dX10_earns_36 ?_
          refine V_iconst (v := 0) (pc := 37) C dX10_earns_37 (by decide) ?_
          refine call_X10_303 (pc := 38) C (r_bestOf2 (d := d - 1) hG (by omega) hc hsh (wk := 0) (by decide)) (by omega) (wg hG (by decide) (by decide)) (Nat.le_of_ble_eq_true rfl) dX10_earns_38 (fun x_38 M_38 h_38 => ?_)
          obtain ⟨f1, f2⟩ := h_38
          have hF2 := hF.tr f1
          have hcf : (fun k => kCost (kAlone (mFee M0 (upd A b f)) t) r e1 e2 k ((kAlone (mFee M0 (upd A b f)) t).1 28 0 k) 0) = (fun k => kCost (kAlone M0 t) r e1 e2 k (upd A b f k) 0) := by
            funext k
            rw [hsh.kL, mFee_at, kCost_fee]
          rw [hcf] at f2
          have hNP := (shw_alone (M0 := M0) (nt := nt) (t := t) hn7 (by omega)).IP hP
          have hrr : ∀ k, k < 7 → (kCost (kAlone M0 t) r e1 e2 k (upd A b f k) 0 < 0 ∨ (0 ≤ kCost (kAlone M0 t) r e1 e2 k (upd A b f k) 0 ∧ kCost (kAlone M0 t) r e1 e2 k (upd A b f k) 0 ≤ 5000)) := by
            intro k hk
            have hfr : 0 ≤ upd A b f k ∧ upd A b f k ≤ 99 := by
              have := hC.1.2.2.2.1 k hk
              rw [mFee_at] at this
              exact this.2.2.2.2
            rcases kCost_range hNP.2.2.2.1 hNP.2.2.2.2 hk r e1 e2 (upd A b f k) 0 hfr (by decide) with y | ⟨y1, y2⟩
            · exact Or.inl (by rw [y]; decide)
            · exact Or.inr ⟨y1, Int32.le_iff_toInt_le.mpr (Int.le_trans y2 (by decide))⟩
          have hbi := best_iff7 hb hb7 hrr f2
          have hbar : barF (fun k => kCost (kAlone M0 t) r e1 e2 k (upd A b f k) 0) b 0 nb 1000000 = sBar M0 nb r e1 e2 A b t := by
            unfold sBar
            refine barF_off nb 0 _ (fun c' _ _ h3 => ?_)
            rw [kFc, if_neg hbt]
            show kCost (kAlone M0 t) r e1 e2 c' (upd A b f c') 0 = _
            rw [show upd A b f c' = A c' from if_neg h3]
          have hbb : upd A b f b = f := if_pos rfl
          rw [hbar] at hbi
          have hbi : x_38 = nI b ↔ (0 ≤ kCost (kAlone M0 t) r e1 e2 b (upd A b f b) 0 ∧ kCost (kAlone M0 t) r e1 e2 b (upd A b f b) 0 ≤ sBar M0 nb r e1 e2 A b t) := hbi
          rw [hbb] at hbi
          refine V_iload_n (pc := 41) C 1 dX10_earns_41 rfl rfl ?_
          refine V_icmp_ne (tgt := 53) (pc := 42) C dX10_earns_42 (by decide) (fun h_42 => ?_) (fun h_42 => ?_)
          · have hn := fun e => h_42 (hbi.mpr e)
            have hz : (if kCost (kAlone M0 t) r e1 e2 b f 0 < 0 then 0 else if sBar M0 nb r e1 e2 A b t < kCost (kAlone M0 t) r e1 e2 b f 0 then 0 else pAsks (M0.1 5 b 0) (M0.1 5 b 2) f) = 0 := by
              by_cases z : kCost (kAlone M0 t) r e1 e2 b f 0 < 0
              · rw [if_pos z]
              · rw [if_neg z, if_pos (Int32.not_le.mp (fun y => hn ⟨Int32.not_lt.mp z, y⟩))]
            rw [hes, hz, Int32.add_zero] at hQ2
            refine Vs_iinc (v := nI (t + 1)) (lv' := [(0, _), (1, _), (2, _), (3, _)]) (pc := 53) C 3 dX10_earns_53 rfl (by decide) rfl (nI_i1 (t)) rfl ?_
            refine V_goto (tgt := 4) (pc := 56) C dX10_earns_56 (by decide) ?_
            exact ih (t + 1) sum _ (by omega) hF2 hQ2
          · have hy := hbi.mp h_42
            rw [hes, if_neg (Int32.not_lt.mpr hy.1), if_neg (Int32.not_lt.mpr hy.2)] at hQ2
            refine V_iload_n (pc := 45) C 2 dX10_earns_45 rfl rfl ?_
            refine V_aload_n (pc := 46) C 0 dX10_earns_46 rfl rfl ?_
            refine V_iload_n (pc := 47) C 1 dX10_earns_47 rfl rfl ?_
            refine call_X10_148 (pc := 48) C (c_X10_asks (d := d - 1) hG (hC.q (hF2.q (by decide))) (k := b) (by omega)) (by omega) (wg hG (by decide) (by decide)) (Nat.le_of_ble_eq_true rfl) dX10_earns_48 (fun x_48 M_48 h_48 => ?_)
            obtain ⟨rfl, k2⟩ := h_48
            rw [mFee_at, mFee_ne _ _ (by decide), hbb] at k2
            subst k2
            refine V_iadd (pc := 51) C dX10_earns_51 ?_
            refine Vs_istore_n (lv' := [(0, _), (1, _), (2, _), (3, _)]) (pc := 52) C dX10_earns_52 rfl (by decide) rfl rfl ?_
            refine Vs_iinc (v := nI (t + 1)) (lv' := [(0, _), (1, _), (2, _), (3, _)]) (pc := 53) C 3 dX10_earns_53 rfl (by decide) rfl (nI_i1 (t)) rfl ?_
            refine V_goto (tgt := 4) (pc := 56) C dX10_earns_56 (by decide) ?_
            exact ih (t + 1) _ _ (by omega) hF2 hQ2
end S70
