/-! the reference's search for the best, against the class's -/
def bRel (c : Nat → Int32) (b : Nat) (A fo be : Int32) : Prop := (A < 0 ∧ fo = -1 ∧ ∀ i, i < b → c i < 0) ∨ (0 ≤ A ∧ be = A ∧ ∃ j, j < b ∧ fo = nI j ∧ c j = A ∧ (∀ i, i < j → ¬ c i = A) ∧ ∀ i, i < b → c i < 0 ∨ A ≤ c i)
theorem bRel_skip {c : Nat → Int32} {b : Nat} {A fo be : Int32} (h : bRel c b A fo be) (hc : c b < 0) : bRel c (b + 1) (lstep A (c b)) fo be := by
  rw [lstep, if_pos hc]
  rcases h with ⟨h1, h2, h3⟩ | ⟨h1, h2, j, h3, h4, h5, h6, h7⟩
  · refine Or.inl ⟨h1, h2, fun i hi => ?_⟩
    by_cases e : i = b
    · rw [e]; exact hc
    · exact h3 i (by omega)
  · refine Or.inr ⟨h1, h2, j, by omega, h4, h5, h6, fun i hi => ?_⟩
    by_cases e : i = b
    · rw [e]; exact Or.inl hc
    · exact h7 i (by omega)
theorem bRel_take {c : Nat → Int32} {b : Nat} {A fo be : Int32} (h : bRel c b A fo be) (hc : ¬ c b < 0) (hl : fo = -1 ∨ c b < be) (hb : b < 100) : bRel c (b + 1) (lstep A (c b)) (nI b) (c b) := by
  rw [lstep, if_neg hc]
  rcases h with ⟨h1, h2, h3⟩ | ⟨h1, h2, j, h3, h4, h5, h6, h7⟩
  · rw [if_pos h1]
    refine Or.inr ⟨Int32.not_lt.mp hc, rfl, b, by omega, rfl, rfl, fun i hi e => hc (by rw [← e]; exact h3 i hi), fun i hi => ?_⟩
    by_cases e : i = b
    · rw [e]; exact Or.inr (Int32.le_refl _)
    · exact Or.inl (h3 i (by omega))
  · have hlt : c b < A := by
      rcases hl with e | e
      · have h8 := nI_pos' (n := j) (by omega)
        rw [← h4, e] at h8
        exact absurd h8 (by decide)
      · rw [h2] at e
        exact e
    rw [if_neg (Int32.not_lt.mpr h1), if_neg (Int32.not_le.mpr hlt)]
    refine Or.inr ⟨Int32.not_lt.mp hc, rfl, b, by omega, rfl, rfl, fun i hi e => ?_, fun i hi => ?_⟩
    · rcases h7 i hi with y | y
      · rw [e] at y
        exact hc y
      · rw [e] at y
        exact absurd hlt (Int32.not_lt.mpr y)
    · by_cases e : i = b
      · rw [e]; exact Or.inr (Int32.le_refl _)
      · rcases h7 i (by omega) with y | y
        · exact Or.inl y
        · exact Or.inr (Int32.le_trans (Int32.le_of_lt hlt) y)
theorem bRel_keep {c : Nat → Int32} {b : Nat} {A fo be : Int32} (h : bRel c b A fo be) (hc : ¬ c b < 0) (h1' : ¬ fo = -1) (hl : ¬ c b < be) : bRel c (b + 1) (lstep A (c b)) fo be := by
  rw [lstep, if_neg hc]
  rcases h with ⟨h1, h2, h3⟩ | ⟨h1, h2, j, h3, h4, h5, h6, h7⟩
  · exact absurd h2 h1'
  · have hle : A ≤ c b := by
      rw [h2] at hl
      exact Int32.not_lt.mp hl
    rw [if_neg (Int32.not_lt.mpr h1), if_pos hle]
    refine Or.inr ⟨h1, h2, j, by omega, h4, h5, h6, fun i hi => ?_⟩
    by_cases e : i = b
    · rw [e]; exact Or.inr hle
    · exact h7 i (by omega)
theorem kFirst_is {c : Nat → Int32} {A : Int32} {j : Nat} (hj : c j = A) : ∀ (n b : Nat), b ≤ j → j < b + n → (∀ i, b ≤ i → i < j → ¬ c i = A) → kFirstF c A b n = nI j := by
  intro n
  induction n with
  | zero => intro b h1 h2; omega
  | succ n ih =>
    intro b h1 h2 h3
    unfold kFirstF
    by_cases e : b = j
    · rw [e, if_pos hj]
    · rw [if_neg (h3 b (Nat.le_refl _) (by omega))]
      exact ih (b + 1) (by omega) (by omega) (fun i h4 h5 => h3 i (by omega) h5)
section S60
variable {l : Launch} {D : va_G} {cy : Nat → ClassId} {ad : Nat → Nat → Nat} {G d : Nat}
theorem shw.kL {M0 N : wS} {nt : Nat} {v : Int32} (h : shw M0 N nt v) : N.1 28 0 = M0.1 28 0 := h.1.1 28 0 (by decide) (by decide) (by decide)
theorem shw.IP {M0 N : wS} {nb nt r e1 e2 e3 : Nat} {v : Int32} (h : shw M0 N nt v) (hp : IP M0 nb nt r e1 e2 e3) : IP N nb nt r e1 e2 e3 := hp.scr h.1.scr
theorem lp_X10_bestOf {p : Program} {e : Env} {s : State} {m : MethodId} {args : Array Value} {below : List Frame} {meth : Method} {c : Code} (C : CX p s m args c cX10_bestOf 6 "CostsAgeModel" D cy ad G (wA ad G) (Rm d) d 0 0) (hr : meth.sig.returnType = (some .int)) (hlk : meth.locks = false) (hG : 56 ≤ G) (hd : 44 ≤ d) {M0 Ms N : wS} {nb nt r e1 e2 e3 : Nat} (hC : rC M0 Ms nb nt r e1 e2 e3) {v : Int32} (hN : shw M0 N nt v) {wk : Int32} (hn : 0 ≤ wk ∧ wk ≤ 103) (Qf : Int32 → wS → Prop) : ∀ (n b : Nat) (M : wS) (A fo : Int32), b + n = nb → frK 37 Ms M → bRel (fun k => kCost N r e1 e2 k (N.1 28 0 k) wk) b A fo (M.1 30 0 37) → (∀ M' x, frK 37 Ms M' → bRel (fun k => kCost N r e1 e2 k (N.1 28 0 k) wk) nb (kLeastF (fun k => kCost N r e1 e2 k (N.1 28 0 k) wk) b n A) x (M'.1 30 0 37) → Qf x M') → V p l e (Rm d) s m args below meth c 6 D cy ad G (wA ad G) 0 0 (MQ below (wQ D cy ad G (rI Qf)) args s 0 0 (wA ad G)) 5 [(0, .ref (ad 30 0)), (1, .int v), (2, .int wk), (3, .int fo), (4, .int (nI b))] [] M := by
  have hn7 := hC.1.1.2
  have hkl := hN.kL
  have hNP := hN.IP hC.1
  intro n
  induction n with
  | zero =>
    intro b M A fo hb hF hR hQ
    have hm := (hC.q (hF.q (by decide))).2.1.1.1
    obtain rfl : b = nb := by omega
    refine V_iload (pc := 5) C 4 dX10_bestOf_5 rfl ?_
    refine V_aload_n (pc := 7) C 0 dX10_bestOf_7 rfl rfl ?_
    refine get_X10_103 (pc := 8) C (wg hG (by decide) (by decide)) dX10_bestOf_8 ?_
    refine V_icmp_ge (tgt := 60) (pc := 11) C dX10_bestOf_11 (by decide) (fun h_11 => ?_) (fun h_11 => ?_)
    · refine V_iload_n (pc := 60) C 3 dX10_bestOf_60 rfl rfl ?_
      refine V_iret (pc := 61) C hr hlk dX10_bestOf_61 ⟨_, rfl, ?_⟩
      exact hQ M _ hF hR
    · rw [hm] at h_11
      exact absurd (nI_le (Nat.le_refl _) (by omega)) h_11
  | succ n ih =>
    intro b M A fo hb hF hR hQ
    have hm := (hC.q (hF.q (by decide))).2.1.1.1
    have hrg := kCost_range hNP.2.2.2.1 hNP.2.2.2.2 (k := b) (by omega) r e1 e2 (N.1 28 0 b) wk (hNP.2.2.2.1 b (by omega)).2.2.2.2 hn
    unfold kLeastF at hQ
    refine V_iload (pc := 5) C 4 dX10_bestOf_5 rfl ?_
    refine V_aload_n (pc := 7) C 0 dX10_bestOf_7 rfl rfl ?_
    refine get_X10_103 (pc := 8) C (wg hG (by decide) (by decide)) dX10_bestOf_8 ?_
    refine V_icmp_ge (tgt := 60) (pc := 11) C dX10_bestOf_11 (by decide) (fun h_11 => ?_) (fun h_11 => ?_)
    · rw [hm] at h_11
      exact absurd h_11 (nI_ge (by omega) (by omega))
    · refine V_aload_n (pc := 14) C 0 dX10_bestOf_14 rfl rfl ?_
      refine V_iload (pc := 15) C 4 dX10_bestOf_15 rfl ?_
      refine V_iload_n (pc := 17) C 1 dX10_bestOf_17 rfl rfl ?_
      refine V_iload_n (pc := 18) C 2 dX10_bestOf_18 rfl rfl ?_
      refine call_X10_297 (pc := 19) C (r_costOf (d := d - 1) hG (by omega) (hC.q (hF.q (by decide))) hN (k := b) (by omega) hn) (by omega) (wg hG (by decide) (by decide)) (Nat.le_of_ble_eq_true rfl) dX10_bestOf_19 (fun x_19 M_19 h_19 => ?_)
      obtain ⟨f1, f2⟩ := h_19
      rw [← hkl] at f2
      have h37 : M_19.1 30 0 37 = M.1 30 0 37 := f1.2 37 (by omega)
      have hF2 := hF.tr (f1.up (by decide))
      rw [← h37] at hR
      refine Vs_istore (lv' := [(0, _), (1, _), (2, _), (3, _), (4, _), (5, _)]) (pc := 22) C dX10_bestOf_22 (by decide) rfl rfl ?_
      refine V_iload (pc := 24) C 5 dX10_bestOf_24 rfl ?_
      refine V_bipush (v := -5) (pc := 26) C dX10_bestOf_26 (by decide) ?_
      refine V_icmp_eq (tgt := 54) (pc := 28) C dX10_bestOf_28 (by decide) (fun h_28 => ?_) (fun h_28 => ?_)
      · have hcn : kCost N r e1 e2 b (N.1 28 0 b) wk < 0 := by rw [← f2, h_28]; decide
        refine Vs_iinc (v := nI (b + 1)) (lv' := [(0, _), (1, _), (2, _), (3, _), (4, _), (5, _)]) (pc := 54) C 4 dX10_bestOf_54 rfl (by decide) rfl (nI_i1 (b)) rfl ?_
        refine V_goto (tgt := 5) (pc := 57) C dX10_bestOf_57 (by decide) ?_
        refine V_loc (lv' := [(0, _), (1, _), (2, _), (3, _), (4, _)]) [0, 1, 2, 3, 4] rfl ?_
        exact ih (b + 1) _ _ _ (by omega) hF2 (bRel_skip hR hcn) hQ
      · have hcn : ¬ kCost N r e1 e2 b (N.1 28 0 b) wk < 0 := Int32.not_lt.mpr (hrg.resolve_left (fun e => h_28 (f2.trans e))).1
        refine V_iload_n (pc := 31) C 3 dX10_bestOf_31 rfl rfl ?_
        refine V_iconst (v := -1) (pc := 32) C dX10_bestOf_32 (by decide) ?_
        refine V_icmp_eq (tgt := 45) (pc := 33) C dX10_bestOf_33 (by decide) (fun h_33 => ?_) (fun h_33 => ?_)
        · refine V_iload (pc := 45) C 4 dX10_bestOf_45 rfl ?_
          refine Vs_istore_n (lv' := [(0, _), (1, _), (2, _), (3, _), (4, _), (5, _)]) (pc := 47) C dX10_bestOf_47 rfl (by decide) rfl rfl ?_
          refine V_aload_n (pc := 48) C 0 dX10_bestOf_48 rfl rfl ?_
          refine V_iload (pc := 49) C 5 dX10_bestOf_49 rfl ?_
          refine put_X10_300 (pc := 51) C (wg hG (by decide) (by decide)) dX10_bestOf_51 ?_
          refine Vs_iinc (v := nI (b + 1)) (lv' := [(0, _), (1, _), (2, _), (3, _), (4, _), (5, _)]) (pc := 54) C 4 dX10_bestOf_54 rfl (by decide) rfl (nI_i1 (b)) rfl ?_
          refine V_goto (tgt := 5) (pc := 57) C dX10_bestOf_57 (by decide) ?_
          refine V_loc (lv' := [(0, _), (1, _), (2, _), (3, _), (4, _)]) [0, 1, 2, 3, 4] rfl ?_
          exact ih (b + 1) _ _ _ (by omega) (hF2.tr (frK.set _ (by omega))) (by rw [mset_at, if_pos ⟨rfl, rfl, rfl⟩, f2]; exact bRel_take hR hcn (Or.inl h_33) (by omega)) hQ
        · refine V_iload (pc := 36) C 5 dX10_bestOf_36 rfl ?_
          refine V_aload_n (pc := 38) C 0 dX10_bestOf_38 rfl rfl ?_
          refine get_X10_300 (pc := 39) C (wg hG (by decide) (by decide)) dX10_bestOf_39 ?_
          refine V_icmp_ge (tgt := 54) (pc := 42) C dX10_bestOf_42 (by decide) (fun h_42 => ?_) (fun h_42 => ?_)
          · have hnl : ¬ kCost N r e1 e2 b (N.1 28 0 b) wk < M_19.1 30 0 37 := by rw [← f2]; exact Int32.not_lt.mpr h_42
            refine Vs_iinc (v := nI (b + 1)) (lv' := [(0, _), (1, _), (2, _), (3, _), (4, _), (5, _)]) (pc := 54) C 4 dX10_bestOf_54 rfl (by decide) rfl (nI_i1 (b)) rfl ?_
            refine V_goto (tgt := 5) (pc := 57) C dX10_bestOf_57 (by decide) ?_
            refine V_loc (lv' := [(0, _), (1, _), (2, _), (3, _), (4, _)]) [0, 1, 2, 3, 4] rfl ?_
            exact ih (b + 1) _ _ _ (by omega) hF2 (bRel_keep hR hcn h_33 hnl) hQ
          · have hyl : kCost N r e1 e2 b (N.1 28 0 b) wk < M_19.1 30 0 37 := by rw [← f2]; exact Int32.not_le.mp h_42
            refine V_iload (pc := 45) C 4 dX10_bestOf_45 rfl ?_
            refine Vs_istore_n (lv' := [(0, _), (1, _), (2, _), (3, _), (4, _), (5, _)]) (pc := 47) C dX10_bestOf_47 rfl (by decide) rfl rfl ?_
            refine V_aload_n (pc := 48) C 0 dX10_bestOf_48 rfl rfl ?_
            refine V_iload (pc := 49) C 5 dX10_bestOf_49 rfl ?_
            refine put_X10_300 (pc := 51) C (wg hG (by decide) (by decide)) dX10_bestOf_51 ?_
            refine Vs_iinc (v := nI (b + 1)) (lv' := [(0, _), (1, _), (2, _), (3, _), (4, _), (5, _)]) (pc := 54) C 4 dX10_bestOf_54 rfl (by decide) rfl (nI_i1 (b)) rfl ?_
            refine V_goto (tgt := 5) (pc := 57) C dX10_bestOf_57 (by decide) ?_
            refine V_loc (lv' := [(0, _), (1, _), (2, _), (3, _), (4, _)]) [0, 1, 2, 3, 4] rfl ?_
            exact ih (b + 1) _ _ _ (by omega) (hF2.tr (frK.set _ (by omega))) (by rw [mset_at, if_pos ⟨rfl, rfl, rfl⟩, f2]; exact bRel_take hR hcn (Or.inr hyl) (by omega)) hQ
/-- the BEST: its cost, and the first who has it -/
theorem r_bestOf (hG : 56 ≤ G) (hd : 44 ≤ d) {M0 M N : wS} {nb nt r e1 e2 e3 : Nat} (hC : rC M0 M nb nt r e1 e2 e3) {v : Int32} (hN : shw M0 N nt v) {wk : Int32} (hn : 0 ≤ wk ∧ wk ≤ 103) : Ctr l D cy ad G d yX10_bestOf cX10_bestOf 6 (some .int) [.ref (ad 30 0), .int v, .int wk] M (rI fun x M' => frK 37 M M' ∧ ((kLeast N nb r e1 e2 wk < 0 ∧ x = -1) ∨ (0 ≤ kLeast N nb r e1 e2 wk ∧ M'.1 30 0 37 = kLeast N nb r e1 e2 wk ∧ ∃ j, j < nb ∧ x = nI j ∧ x = kFirstF (fun k => kCost N r e1 e2 k (N.1 28 0 k) wk) (kLeast N nb r e1 e2 wk) 0 nb))) := by
  refine Ctr.of (lv0 := [(0, _), (1, _), (2, _)]) (by decide) (Nat.le_of_ble_eq_true rfl) rfl ?_
  intro p e s m args below meth c C hr hlk _
  have C : CX p s m args c cX10_bestOf 6 "CostsAgeModel" D cy ad G (wA ad G) (Rm d) d 0 0 := C
  refine V_iconst (v := -1) (pc := 0) C dX10_bestOf_0 (by decide) ?_
  refine Vs_istore_n (lv' := [(0, _), (1, _), (2, _), (3, _)]) (pc := 1) C dX10_bestOf_1 rfl (by decide) rfl rfl ?_
  refine V_iconst (v := 0) (pc := 2) C dX10_bestOf_2 (by decide) ?_
  refine Vs_istore (lv' := [(0, _), (1, _), (2, _), (3, _), (4, _)]) (pc := 3) C dX10_bestOf_3 (by decide) rfl rfl ?_
  refine lp_X10_bestOf C hr hlk hG hd hC hN hn _ nb 0 M (-5) (-1) (by omega) frK.rf (Or.inl ⟨by decide, rfl, fun i hi => absurd hi (Nat.not_lt_zero _)⟩) (fun M' x h1 h2 => ⟨h1, ?_⟩)
  rcases h2 with ⟨a1, a2, -⟩ | ⟨a1, a2, j, a3, a4, a5, a6, -⟩
  · exact Or.inl ⟨a1, a2⟩
  · refine Or.inr ⟨a1, a2, j, a3, a4, ?_⟩
    rw [a4]
    exact (kFirst_is a5 nb 0 (Nat.zero_le _) (by omega) (fun i _ hi => a6 i hi)).symm
theorem r_best (hG : 56 ≤ G) (hd : 45 ≤ d) {M0 M : wS} {nb nt r e1 e2 e3 O : Nat} (hC : rC M0 M nb nt r e1 e2 e3) (hU : uO M0 nt O) (v n what : Int32) : Ctr l D cy ad G d yX10_best cX10_best 5 (some .int) [.ref (ad 30 0), .int v, .int n, .int what] M (rI fun x M' => qF M M' ∧ ((0 ≤ n ∧ n ≤ 103) ∧ (0 ≤ what ∧ what ≤ 1) ∧ kTied M0 nt v → x = if 0 ≤ kLeast (kTieM M0 nt v) nb r e1 e2 n then (if what = 1 then kLeast (kTieM M0 nt v) nb r e1 e2 n else kFirstF (fun k => kCost (kTieM M0 nt v) r e1 e2 k ((kTieM M0 nt v).1 28 0 k) n) (kLeast (kTieM M0 nt v) nb r e1 e2 n) 0 nb) else -1) ∧ (¬ ((0 ≤ n ∧ n ≤ 103) ∧ (0 ≤ what ∧ what ≤ 1) ∧ kTied M0 nt v) → x = -2)) := by
  have hn7 := hC.1.1.2
  refine Ctr.of (lv0 := [(0, _), (1, _), (2, _), (3, _)]) (by decide) (Nat.le_of_ble_eq_true rfl) rfl ?_
  intro p e s m args below meth c C hr hlk _
  have C : CX p s m args c cX10_best 5 "CostsAgeModel" D cy ad G (wA ad G) (Rm d) d 0 0 := C
  refine V_aload_n (pc := 0) C 0 dX10_best_0 rfl rfl ?_
  refine V_iload_n (pc := 1) C 1 dX10_best_1 rfl rfl ?_
  refine call_X10_294 (pc := 2) C (r_mayBeTied (d := d - 1) hG (by omega) hC hU v) (by omega) (wg hG (by decide) (by decide)) (Nat.le_of_ble_eq_true rfl) dX10_best_2 (fun x_2 M_2 h_2 => ?_)
  obtain ⟨e_2, rfl⟩ := h_2
  have e_2 := e_2.symm
  subst e_2
  refine V_if_eq (tgt := 30) (pc := 5) C dX10_best_5 (by decide) (fun h_5 => ?_) (fun h_5 => ?_)
  · have h_5 := bJ_0.mp h_5
    refine V_bipush (v := -2) (pc := 30) C dX10_best_30 (by decide) ?_
    refine V_iret (pc := 32) C hr hlk dX10_best_32 ⟨_, rfl, ?_⟩
    first | exact ⟨qF.rf, fun e => absurd e.2.2 h_5, fun _ => rfl⟩ | exact ⟨qF.rf, fun e => absurd e.1 h_17, fun _ => rfl⟩ | exact ⟨qF.rf, fun e => absurd e.2.1 h_27, fun _ => rfl⟩
  · have h_5 := bJ_1.mp h_5
    refine V_iload_n (pc := 8) C 2 dX10_best_8 rfl rfl ?_
    refine V_i2l (pc := 9) C dX10_best_9 ?_
    refine V_lconst (v := 0) (pc := 10) C dX10_best_10 (by decide) ?_
    refine V_ldc2 (pc := 11) C dX10_best_11 qk_X10_273 ?_
    refine call_X10_106 (pc := 14) C (c_in (d := d - 1) M n 0 103 (by decide) (by decide)) (by omega) (Nat.le_of_ble_eq_true rfl) dX10_best_14 (fun x_14 M_14 h_14 => ?_)
    obtain ⟨e_14, rfl⟩ := h_14
    have e_14 := e_14.symm
    subst e_14
    refine V_if_eq (tgt := 30) (pc := 17) C dX10_best_17 (by decide) (fun h_17 => ?_) (fun h_17 => ?_)
    · have h_17 := bJ_0.mp h_17
      refine V_bipush (v := -2) (pc := 30) C dX10_best_30 (by decide) ?_
      refine V_iret (pc := 32) C hr hlk dX10_best_32 ⟨_, rfl, ?_⟩
      first | exact ⟨qF.rf, fun e => absurd e.2.2 h_5, fun _ => rfl⟩ | exact ⟨qF.rf, fun e => absurd e.1 h_17, fun _ => rfl⟩ | exact ⟨qF.rf, fun e => absurd e.2.1 h_27, fun _ => rfl⟩
    · have h_17 := bJ_1.mp h_17
      refine V_iload_n (pc := 20) C 3 dX10_best_20 rfl rfl ?_
      refine V_i2l (pc := 21) C dX10_best_21 ?_
      refine V_lconst (v := 0) (pc := 22) C dX10_best_22 (by decide) ?_
      refine V_lconst (v := 1) (pc := 23) C dX10_best_23 (by decide) ?_
      refine call_X10_106 (pc := 24) C (c_in (d := d - 1) M what 0 1 (by decide) (by decide)) (by omega) (Nat.le_of_ble_eq_true rfl) dX10_best_24 (fun x_24 M_24 h_24 => ?_)
      obtain ⟨e_24, rfl⟩ := h_24
      have e_24 := e_24.symm
      subst e_24
      refine V_if_ne (tgt := 33) (pc := 27) C dX10_best_27 (by decide) (fun h_27 => ?_) (fun h_27 => ?_)
      · have h_27 := bJ_1.mp h_27
        refine V_aload_n (pc := 33) C 0 dX10_best_33 rfl rfl ?_
        refine V_iload_n (pc := 34) C 1 dX10_best_34 rfl rfl ?_
        refine V_iload_n (pc := 35) C 2 dX10_best_35 rfl rfl ?_
        refine call_X10_303 (pc := 36) C (r_bestOf (d := d - 1) hG (by omega) hC (shw_tie hC.1.2.1.2 (kTied_cnt hC.1.2.1.2 hU h_5)) h_17) (by omega) (wg hG (by decide) (by decide)) (Nat.le_of_ble_eq_true rfl) dX10_best_36 (fun x_36 M_36 h_36 => ?_)
        obtain ⟨f1, f2⟩ := h_36
        have hw : what = 0 ∨ what = 1 := by
          obtain ⟨w, w1, rfl⟩ := ix_of (n := 2) h_27.1 (by have := h_27.2; (simp only [i32_eq, Int32.le_iff_toInt_le, Int32.lt_iff_toInt_lt, Int32.not_le, Int32.not_lt, Int32.toInt_add, Int32.toInt_sub, Int32.toInt_mul, Int32.toInt_neg, Int32.toInt_div, tdv2, tdv4, tdv10, tdv52, tdv100, nI_T, apply_ite Int32.toInt, Int.bmod, Int32.reduceToInt] at *; omega)) (by decide)
          have hc : w = 0 ∨ w = 1 := by omega
          rcases hc with rfl | rfl
          · exact Or.inl rfl
          · exact Or.inr rfl
        have hj : ∀ j, j < nb → ¬ nI j = -1 := fun j h e => by
          have := nI_pos' (n := j) (by omega)
          rw [e] at this
          exact absurd this (by decide)
        refine Vs_istore (lv' := [(0, _), (1, _), (2, _), (3, _), (4, _)]) (pc := 39) C dX10_best_39 (by decide) rfl rfl ?_
        refine V_iload (pc := 41) C 4 dX10_best_41 rfl ?_
        refine V_iconst (v := -1) (pc := 43) C dX10_best_43 (by decide) ?_
        refine V_icmp_eq (tgt := 51) (pc := 44) C dX10_best_44 (by decide) (fun h_44 => ?_) (fun h_44 => ?_)
        · refine V_iload (pc := 51) C 4 dX10_best_51 rfl ?_
          refine V_goto (tgt := 60) (pc := 53) C dX10_best_53 (by decide) ?_
          refine V_iret (pc := 60) C hr hlk dX10_best_60 ⟨_, rfl, ?_⟩
          refine ⟨f1.q (by decide), fun _ => ?_, fun e => absurd ⟨h_17, h_27, h_5⟩ e⟩
          rcases f2 with ⟨a1, a2⟩ | ⟨a1, a2, j, a3, a4, a5⟩
          · rw [if_neg (Int32.not_le.mpr a1)]
            exact a2
          · exact absurd (a4.symm.trans h_44) (hj j a3)
        · refine V_iload_n (pc := 47) C 3 dX10_best_47 rfl rfl ?_
          refine V_if_ne (tgt := 56) (pc := 48) C dX10_best_48 (by decide) (fun h_48 => ?_) (fun h_48 => ?_)
          · refine V_aload_n (pc := 56) C 0 dX10_best_56 rfl rfl ?_
            refine get_X10_300 (pc := 57) C (wg hG (by decide) (by decide)) dX10_best_57 ?_
            refine V_iret (pc := 60) C hr hlk dX10_best_60 ⟨_, rfl, ?_⟩
            refine ⟨f1.q (by decide), fun _ => ?_, fun e => absurd ⟨h_17, h_27, h_5⟩ e⟩
            rcases f2 with ⟨a1, a2⟩ | ⟨a1, a2, j, a3, a4, a5⟩
            · exact absurd a2 h_44
            · rw [if_pos a1, if_pos (hw.resolve_left h_48)]
              exact a2
          · refine V_iload (pc := 51) C 4 dX10_best_51 rfl ?_
            refine V_goto (tgt := 60) (pc := 53) C dX10_best_53 (by decide) ?_
            refine V_iret (pc := 60) C hr hlk dX10_best_60 ⟨_, rfl, ?_⟩
            refine ⟨f1.q (by decide), fun _ => ?_, fun e => absurd ⟨h_17, h_27, h_5⟩ e⟩
            rcases f2 with ⟨a1, a2⟩ | ⟨a1, a2, j, a3, a4, a5⟩
            · exact absurd a2 h_44
            · rw [if_pos a1, if_neg (by rw [h_48]; decide)]
              exact a5
      · have h_27 := bJ_0.mp h_27
        refine V_bipush (v := -2) (pc := 30) C dX10_best_30 (by decide) ?_
        refine V_iret (pc := 32) C hr hlk dX10_best_32 ⟨_, rfl, ?_⟩
        first | exact ⟨qF.rf, fun e => absurd e.2.2 h_5, fun _ => rfl⟩ | exact ⟨qF.rf, fun e => absurd e.1 h_17, fun _ => rfl⟩ | exact ⟨qF.rf, fun e => absurd e.2.1 h_27, fun _ => rfl⟩
/-- the week in which the least cost is least -/
theorem hasB_1 {x : Int32} {t : Nat} : (x >>> (nI t &&& 31)) &&& 1 = 1 ↔ hasB x t := by
  unfold hasB
  rcases bit01 x t with h | h
  · rw [h]; decide
  · rw [h]; decide
def wRel (q : Int32 × Int32) (fo le : Int32) : Prop := fo = q.1 ∧ ((q.2 < 0 ∧ q = (-1, -1)) ∨ (0 ≤ q.2 ∧ le = q.2 ∧ ∃ j, j < 200 ∧ q.1 = nI j))
theorem nIm1 {j : Nat} (h : j < 200) : ¬ nI j = -1 := fun e => by
  have := nI_pos' (n := j) (by omega)
  rw [e] at this
  exact absurd this (by decide)
theorem lp_X10_whenLeast {p : Program} {e : Env} {s : State} {m : MethodId} {args : Array Value} {below : List Frame} {meth : Method} {c : Code} (C : CX p s m args c cX10_whenLeast 5 "CostsAgeModel" D cy ad G (wA ad G) (Rm d) d 0 0) (hr : meth.sig.returnType = (some .int)) (hlk : meth.locks = false) (hG : 56 ≤ G) (hd : 45 ≤ d) {M0 Ms : wS} {nb nt r e1 e2 e3 t L : Nat} (hC : rC M0 Ms nb nt r e1 e2 e3) (ht : t < nt) (hL : L ≤ 103) (Qf : Int32 → wS → Prop) : ∀ (n i : Nat) (M : wS) (q : Int32 × Int32), i + n = L + 1 → frK 38 Ms M → wRel q q.1 (M.1 30 0 38) → (∀ M', frK 38 Ms M' → wRel (wRun (fun j => kLeast (kAlone M0 t) nb r e1 e2 (nI j)) i n q) (wRun (fun j => kLeast (kAlone M0 t) nb r e1 e2 (nI j)) i n q).1 (M'.1 30 0 38) → Qf (wRun (fun j => kLeast (kAlone M0 t) nb r e1 e2 (nI j)) i n q).1 M') → V p l e (Rm d) s m args below meth c 5 D cy ad G (wA ad G) 0 0 (MQ below (wQ D cy ad G (rI Qf)) args s 0 0 (wA ad G)) 5 [(0, .ref (ad 30 0)), (1, .int (nI t)), (2, .int (nI L)), (3, .int q.1), (4, .int (nI i))] [] M := by
  have hn7 := hC.1.2.1.2
  intro n
  induction n with
  | zero =>
    intro i M q hi hF hR hQ
    refine V_iload (pc := 5) C 4 dX10_whenLeast_5 rfl ?_
    refine V_iload_n (pc := 7) C 2 dX10_whenLeast_7 rfl rfl ?_
    refine V_icmp_gt (tgt := 57) (pc := 8) C dX10_whenLeast_8 (by decide) (fun h_8 => ?_) (fun h_8 => ?_)
    · refine V_iload_n (pc := 57) C 3 dX10_whenLeast_57 rfl rfl ?_
      refine V_iret (pc := 58) C hr hlk dX10_whenLeast_58 ⟨_, rfl, ?_⟩
      exact hQ M hF hR
    · exact absurd (nI_lt (a := L) (b := i) (by omega) (by omega)) h_8
  | succ n ih =>
    intro i M q hi hF hR hQ
    unfold wRun at hQ
    refine V_iload (pc := 5) C 4 dX10_whenLeast_5 rfl ?_
    refine V_iload_n (pc := 7) C 2 dX10_whenLeast_7 rfl rfl ?_
    refine V_icmp_gt (tgt := 57) (pc := 8) C dX10_whenLeast_8 (by decide) (fun h_8 => ?_) (fun h_8 => ?_)
    · exact absurd h_8 (nI_nlt (by omega) (by omega))
    · refine V_aload_n (pc := 11) C 0 dX10_whenLeast_11 rfl rfl ?_
      refine V_iconst (v := 1) (pc := 12) C dX10_whenLeast_12 (by decide) ?_
      refine V_iload_n (pc := 13) C 1 dX10_whenLeast_13 rfl rfl ?_
      refine V_ishl (pc := 14) C dX10_whenLeast_14 ?_
      refine V_iload (pc := 15) C 4 dX10_whenLeast_15 rfl ?_
      refine call_X10_303 (pc := 17) C (r_bestOf (d := d - 1) hG (by omega) (hC.q (hF.q (by decide))) (shw_alone hn7 ht) (wk := nI i) ⟨nI_pos' (by omega), nI_le (b := 103) (by omega) (by decide)⟩) (by omega) (wg hG (by decide) (by decide)) (Nat.le_of_ble_eq_true rfl) dX10_whenLeast_17 (fun x_17 M_17 h_17 => ?_)
      obtain ⟨f1, f2⟩ := h_17
      have h38 : M_17.1 30 0 38 = M.1 30 0 38 := f1.2 38 (by omega)
      have hF2 := hF.tr (f1.up (by decide))
      rw [← h38] at hR
      refine V_iconst (v := -1) (pc := 20) C dX10_whenLeast_20 (by decide) ?_
      refine V_icmp_eq (tgt := 51) (pc := 21) C dX10_whenLeast_21 (by decide) (fun h_21 => ?_) (fun h_21 => ?_)
      · have hc : kLeast (kAlone M0 t) nb r e1 e2 (nI i) < 0 := by
          rcases f2 with ⟨a1, a2⟩ | ⟨a1, a2, j, a3, a4, a5⟩
          · exact a1
          · exact absurd (a4.symm.trans h_21) (nIm1 (by have := hC.1.1.2; omega))
        rw [show wStep i (kLeast (kAlone M0 t) nb r e1 e2 (nI i)) q = q by rw [wStep, if_pos hc]] at hQ
        refine Vs_iinc (v := nI (i + 1)) (lv' := [(0, _), (1, _), (2, _), (3, _), (4, _)]) (pc := 51) C 4 dX10_whenLeast_51 rfl (by decide) rfl (nI_i1 (i)) rfl ?_
        refine V_goto (tgt := 5) (pc := 54) C dX10_whenLeast_54 (by decide) ?_
        exact ih (i + 1) _ q (by omega) hF2 hR hQ
      · have hc : 0 ≤ kLeast (kAlone M0 t) nb r e1 e2 (nI i) ∧ M_17.1 30 0 37 = kLeast (kAlone M0 t) nb r e1 e2 (nI i) := by
          rcases f2 with ⟨a1, a2⟩ | ⟨a1, a2, j, a3, a4, a5⟩
          · exact absurd a2 h_21
          · exact ⟨a1, a2⟩
        have hcn := Int32.not_lt.mpr hc.1
        refine V_iload_n (pc := 24) C 3 dX10_whenLeast_24 rfl rfl ?_
        refine V_iconst (v := -1) (pc := 25) C dX10_whenLeast_25 (by decide) ?_
        refine V_icmp_eq (tgt := 40) (pc := 26) C dX10_whenLeast_26 (by decide) (fun h_26 => ?_) (fun h_26 => ?_)
        · have hq : q.2 < 0 := by
            rcases hR.2 with ⟨a1, a2⟩ | ⟨a1, a2, j, a3, a4⟩
            · exact a1
            · exact absurd (a4.symm.trans h_26) (nIm1 a3)
          rw [show wStep i (kLeast (kAlone M0 t) nb r e1 e2 (nI i)) q = (nI i, kLeast (kAlone M0 t) nb r e1 e2 (nI i)) by rw [wStep, if_neg hcn, if_pos hq]] at hQ
          refine V_iload (pc := 40) C 4 dX10_whenLeast_40 rfl ?_
          refine Vs_istore_n (lv' := [(0, _), (1, _), (2, _), (3, _), (4, _)]) (pc := 42) C dX10_whenLeast_42 rfl (by decide) rfl rfl ?_
          refine V_aload_n (pc := 43) C 0 dX10_whenLeast_43 rfl rfl ?_
          refine V_aload_n (pc := 44) C 0 dX10_whenLeast_44 rfl rfl ?_
          refine get_X10_300 (pc := 45) C (wg hG (by decide) (by decide)) dX10_whenLeast_45 ?_
          refine put_X10_306 (pc := 48) C (wg hG (by decide) (by decide)) dX10_whenLeast_48 ?_
          rw [hc.2]
          refine Vs_iinc (v := nI (i + 1)) (lv' := [(0, _), (1, _), (2, _), (3, _), (4, _)]) (pc := 51) C 4 dX10_whenLeast_51 rfl (by decide) rfl (nI_i1 (i)) rfl ?_
          refine V_goto (tgt := 5) (pc := 54) C dX10_whenLeast_54 (by decide) ?_
          exact ih (i + 1) _ (nI i, kLeast (kAlone M0 t) nb r e1 e2 (nI i)) (by omega) (hF2.tr (frK.set _ (by omega))) ⟨rfl, Or.inr ⟨hc.1, by rw [mset_at, if_pos ⟨rfl, rfl, rfl⟩], i, by omega, rfl⟩⟩ hQ
        · have hq : 0 ≤ q.2 ∧ M_17.1 30 0 38 = q.2 := by
            rcases hR.2 with ⟨a1, a2⟩ | ⟨a1, a2, j, a3, a4⟩
            · exact absurd (by rw [a2]) h_26
            · exact ⟨a1, a2⟩
          refine V_aload_n (pc := 29) C 0 dX10_whenLeast_29 rfl rfl ?_
          refine get_X10_300 (pc := 30) C (wg hG (by decide) (by decide)) dX10_whenLeast_30 ?_
          refine V_aload_n (pc := 33) C 0 dX10_whenLeast_33 rfl rfl ?_
          refine get_X10_306 (pc := 34) C (wg hG (by decide) (by decide)) dX10_whenLeast_34 ?_
          refine V_icmp_ge (tgt := 51) (pc := 37) C dX10_whenLeast_37 (by decide) (fun h_37 => ?_) (fun h_37 => ?_)
          · rw [hc.2, hq.2] at h_37
            rw [show wStep i (kLeast (kAlone M0 t) nb r e1 e2 (nI i)) q = q by rw [wStep, if_neg hcn, if_neg (Int32.not_lt.mpr hq.1), if_pos h_37]] at hQ
            refine Vs_iinc (v := nI (i + 1)) (lv' := [(0, _), (1, _), (2, _), (3, _), (4, _)]) (pc := 51) C 4 dX10_whenLeast_51 rfl (by decide) rfl (nI_i1 (i)) rfl ?_
            refine V_goto (tgt := 5) (pc := 54) C dX10_whenLeast_54 (by decide) ?_
            exact ih (i + 1) _ q (by omega) hF2 hR hQ
          · rw [hc.2, hq.2] at h_37
            rw [show wStep i (kLeast (kAlone M0 t) nb r e1 e2 (nI i)) q = (nI i, kLeast (kAlone M0 t) nb r e1 e2 (nI i)) by rw [wStep, if_neg hcn, if_neg (Int32.not_lt.mpr hq.1), if_neg h_37]] at hQ
            refine V_iload (pc := 40) C 4 dX10_whenLeast_40 rfl ?_
            refine Vs_istore_n (lv' := [(0, _), (1, _), (2, _), (3, _), (4, _)]) (pc := 42) C dX10_whenLeast_42 rfl (by decide) rfl rfl ?_
            refine V_aload_n (pc := 43) C 0 dX10_whenLeast_43 rfl rfl ?_
            refine V_aload_n (pc := 44) C 0 dX10_whenLeast_44 rfl rfl ?_
            refine get_X10_300 (pc := 45) C (wg hG (by decide) (by decide)) dX10_whenLeast_45 ?_
            refine put_X10_306 (pc := 48) C (wg hG (by decide) (by decide)) dX10_whenLeast_48 ?_
            rw [hc.2]
            refine Vs_iinc (v := nI (i + 1)) (lv' := [(0, _), (1, _), (2, _), (3, _), (4, _)]) (pc := 51) C 4 dX10_whenLeast_51 rfl (by decide) rfl (nI_i1 (i)) rfl ?_
            refine V_goto (tgt := 5) (pc := 54) C dX10_whenLeast_54 (by decide) ?_
            exact ih (i + 1) _ (nI i, kLeast (kAlone M0 t) nb r e1 e2 (nI i)) (by omega) (hF2.tr (frK.set _ (by omega))) ⟨rfl, Or.inr ⟨hc.1, by rw [mset_at, if_pos ⟨rfl, rfl, rfl⟩], i, by omega, rfl⟩⟩ hQ
theorem r_whenLeast (hG : 56 ≤ G) (hd : 45 ≤ d) {M0 M : wS} {nb nt r e1 e2 e3 t L : Nat} (hC : rC M0 M nb nt r e1 e2 e3) (ht : t < nt) (hL : L ≤ 103) : Ctr l D cy ad G d yX10_whenLeast cX10_whenLeast 5 (some .int) [.ref (ad 30 0), .int (nI t), .int (nI L)] M (rI fun x M' => frK 38 M M' ∧ x = (wRun (fun j => kLeast (kAlone M0 t) nb r e1 e2 (nI j)) 0 (L + 1) (-1, -1)).1 ∧ wRel (wRun (fun j => kLeast (kAlone M0 t) nb r e1 e2 (nI j)) 0 (L + 1) (-1, -1)) (wRun (fun j => kLeast (kAlone M0 t) nb r e1 e2 (nI j)) 0 (L + 1) (-1, -1)).1 (M'.1 30 0 38)) := by
  refine Ctr.of (lv0 := [(0, _), (1, _), (2, _)]) (by decide) (Nat.le_of_ble_eq_true rfl) rfl ?_
  intro p e s m args below meth c C hr hlk _
  have C : CX p s m args c cX10_whenLeast 5 "CostsAgeModel" D cy ad G (wA ad G) (Rm d) d 0 0 := C
  refine V_iconst (v := -1) (pc := 0) C dX10_whenLeast_0 (by decide) ?_
  refine Vs_istore_n (lv' := [(0, _), (1, _), (2, _), (3, _)]) (pc := 1) C dX10_whenLeast_1 rfl (by decide) rfl rfl ?_
  refine V_iconst (v := 0) (pc := 2) C dX10_whenLeast_2 (by decide) ?_
  refine Vs_istore (lv' := [(0, _), (1, _), (2, _), (3, _), (4, _)]) (pc := 3) C dX10_whenLeast_3 (by decide) rfl rfl ?_
  exact lp_X10_whenLeast C hr hlk hG hd hC ht hL _ (L + 1) 0 M (-1, -1) (by omega) frK.rf ⟨rfl, Or.inl ⟨by decide, rfl⟩⟩ (fun M' h1 h2 => ⟨h1, rfl, h2⟩)
theorem r_when (hG : 56 ≤ G) (hd : 46 ≤ d) {M0 M : wS} {nb nt r e1 e2 e3 : Nat} (hC : rC M0 M nb nt r e1 e2 e3) (th what : Int32) : Ctr l D cy ad G d yX10_when cX10_when 4 (some .int) [.ref (ad 30 0), .int th, .int what] M (rI fun x M' => qF M M' ∧ ((0 ≤ th ∧ th < nI nt) ∧ (0 ≤ what ∧ what ≤ 1) → (hasB (M0.1 26 0 3) th.toNatClampNeg → x = -3) ∧ (¬ hasB (M0.1 26 0 3) th.toNatClampNeg → x = if what = 0 then (kWhen M0 nb r e1 e2 th.toNatClampNeg).1 else (kWhen M0 nb r e1 e2 th.toNatClampNeg).2)) ∧ (¬ ((0 ≤ th ∧ th < nI nt) ∧ (0 ≤ what ∧ what ≤ 1)) → x = -2)) := by
  have hn7 := hC.1.2.1.2
  refine Ctr.of (lv0 := [(0, _), (1, _), (2, _)]) (by decide) (Nat.le_of_ble_eq_true rfl) rfl ?_
  intro p e s m args below meth c C hr hlk _
  have C : CX p s m args c cX10_when 4 "CostsAgeModel" D cy ad G (wA ad G) (Rm d) d 0 0 := C
  refine V_aload_n (pc := 0) C 0 dX10_when_0 rfl rfl ?_
  refine V_iload_n (pc := 1) C 1 dX10_when_1 rfl rfl ?_
  refine call_X10_128 (pc := 2) C (c_X10_isThing (d := d - 1) hG (by omega) M hC.2.1.1.2 hn7 th) (by omega) (wg hG (by decide) (by decide)) (Nat.le_of_ble_eq_true rfl) dX10_when_2 (fun x_2 M_2 h_2 => ?_)
  obtain ⟨e_2, rfl⟩ := h_2
  have e_2 := e_2.symm
  subst e_2
  refine V_if_eq (tgt := 18) (pc := 5) C dX10_when_5 (by decide) (fun h_5 => ?_) (fun h_5 => ?_)
  · have h_5 := bJ_0.mp h_5
    refine V_bipush (v := -2) (pc := 18) C dX10_when_18 (by decide) ?_
    refine V_iret (pc := 20) C hr hlk dX10_when_20 ⟨_, rfl, ?_⟩
    first | exact ⟨qF.rf, fun e => absurd e.1 h_5, fun _ => rfl⟩ | exact ⟨qF.rf, fun e => absurd e.2 h_15, fun _ => rfl⟩
  · have h_5 := bJ_1.mp h_5
    refine V_iload_n (pc := 8) C 2 dX10_when_8 rfl rfl ?_
    refine V_i2l (pc := 9) C dX10_when_9 ?_
    refine V_lconst (v := 0) (pc := 10) C dX10_when_10 (by decide) ?_
    refine V_lconst (v := 1) (pc := 11) C dX10_when_11 (by decide) ?_
    refine call_X10_106 (pc := 12) C (c_in (d := d - 1) M what 0 1 (by decide) (by decide)) (by omega) (Nat.le_of_ble_eq_true rfl) dX10_when_12 (fun x_12 M_12 h_12 => ?_)
    obtain ⟨e_12, rfl⟩ := h_12
    have e_12 := e_12.symm
    subst e_12
    refine V_if_ne (tgt := 21) (pc := 15) C dX10_when_15 (by decide) (fun h_15 => ?_) (fun h_15 => ?_)
    · have h_15 := bJ_1.mp h_15
      obtain ⟨t, ht, rfl⟩ := ix_of h_5.1 h_5.2 (by omega)
      rw [nI_clamp (by omega)]
      refine V_aload_n (pc := 21) C 0 dX10_when_21 rfl rfl ?_
      refine get_X10_113 (pc := 22) C (wg hG (by decide) (by decide)) dX10_when_22 ?_
      refine V_iload_n (pc := 25) C 1 dX10_when_25 rfl rfl ?_
      refine V_ishr (pc := 26) C dX10_when_26 ?_
      refine V_iconst (v := 1) (pc := 27) C dX10_when_27 (by decide) ?_
      refine V_iand (pc := 28) C dX10_when_28 ?_
      refine V_iconst (v := 1) (pc := 29) C dX10_when_29 (by decide) ?_
      rw [hC.2.1.2.1.1]
      refine V_icmp_ne (tgt := 36) (pc := 30) C dX10_when_30 (by decide) (fun h_30 => ?_) (fun h_30 => ?_)
      · rw [hasB_1] at h_30
        refine V_aload_n (pc := 36) C 0 dX10_when_36 rfl rfl ?_
        refine V_iload_n (pc := 37) C 1 dX10_when_37 rfl rfl ?_
        refine V_bipush (v := 103) (pc := 38) C dX10_when_38 (by decide) ?_
        refine call_X10_309 (pc := 40) C (r_whenLeast (d := d - 1) hG (by omega) hC ht (L := 103) (by decide)) (by omega) (wg hG (by decide) (by decide)) (Nat.le_of_ble_eq_true rfl) dX10_when_40 (fun x_40 M_40 h_40 => ?_)
        obtain ⟨f1, f2, f3⟩ := h_40
        have f4 : x_40 = (kWhen M0 nb r e1 e2 t).1 ∧ wRel (kWhen M0 nb r e1 e2 t) (kWhen M0 nb r e1 e2 t).1 (M_40.1 30 0 38) := ⟨f2, f3⟩
        clear f2 f3
        obtain ⟨f2, f3⟩ := f4
        refine Vs_istore_n (lv' := [(0, _), (1, _), (2, _), (3, _)]) (pc := 43) C dX10_when_43 rfl (by decide) rfl rfl ?_
        refine V_iload_n (pc := 44) C 3 dX10_when_44 rfl rfl ?_
        refine V_iconst (v := -1) (pc := 45) C dX10_when_45 (by decide) ?_
        refine V_icmp_eq (tgt := 53) (pc := 46) C dX10_when_46 (by decide) (fun h_46 => ?_) (fun h_46 => ?_)
        · refine V_iload_n (pc := 53) C 3 dX10_when_53 rfl rfl ?_
          refine V_goto (tgt := 61) (pc := 54) C dX10_when_54 (by decide) ?_
          refine V_iret (pc := 61) C hr hlk dX10_when_61 ⟨_, rfl, ?_⟩
          refine ⟨f1.q (by decide), fun _ => ⟨fun e => absurd e h_30, fun _ => ?_⟩, fun e => absurd ⟨h_5, h_15⟩ e⟩
          rcases f3.2 with ⟨a1, a2⟩ | ⟨a1, a2, j, a3, a4⟩
          · rw [f2, a2]
            split <;> rfl
          · exact absurd (a4.symm.trans (f2.symm.trans h_46)) (nIm1 a3)
        · refine V_iload_n (pc := 49) C 2 dX10_when_49 rfl rfl ?_
          refine V_if_ne (tgt := 57) (pc := 50) C dX10_when_50 (by decide) (fun h_50 => ?_) (fun h_50 => ?_)
          · refine V_aload_n (pc := 57) C 0 dX10_when_57 rfl rfl ?_
            refine get_X10_306 (pc := 58) C (wg hG (by decide) (by decide)) dX10_when_58 ?_
            refine V_iret (pc := 61) C hr hlk dX10_when_61 ⟨_, rfl, ?_⟩
            refine ⟨f1.q (by decide), fun _ => ⟨fun e => absurd e h_30, fun _ => ?_⟩, fun e => absurd ⟨h_5, h_15⟩ e⟩
            rw [if_neg h_50]
            rcases f3.2 with ⟨a1, a2⟩ | ⟨a1, a2, j, a3, a4⟩
            · exact absurd (f2.trans (by rw [a2])) h_46
            · exact a2
          · refine V_iload_n (pc := 53) C 3 dX10_when_53 rfl rfl ?_
            refine V_goto (tgt := 61) (pc := 54) C dX10_when_54 (by decide) ?_
            refine V_iret (pc := 61) C hr hlk dX10_when_61 ⟨_, rfl, ?_⟩
            refine ⟨f1.q (by decide), fun _ => ⟨fun e => absurd e h_30, fun _ => ?_⟩, fun e => absurd ⟨h_5, h_15⟩ e⟩
            rw [if_pos h_50]
            exact f2
      · rw [hasB_1] at h_30
        refine V_bipush (v := -3) (pc := 33) C dX10_when_33 (by decide) ?_
        refine V_iret (pc := 35) C hr hlk dX10_when_35 ⟨_, rfl, ?_⟩
        exact ⟨qF.rf, fun _ => ⟨fun _ => rfl, fun e => absurd h_30 e⟩, fun e => absurd ⟨h_5, h_15⟩ e⟩
    · have h_15 := bJ_0.mp h_15
      refine V_bipush (v := -2) (pc := 18) C dX10_when_18 (by decide) ?_
      refine V_iret (pc := 20) C hr hlk dX10_when_20 ⟨_, rfl, ?_⟩
      first | exact ⟨qF.rf, fun e => absurd e.1 h_5, fun _ => rfl⟩ | exact ⟨qF.rf, fun e => absurd e.2 h_15, fun _ => rfl⟩
end S60
