/-! ALL, the reference's table -/
def eQ (o : Option Nat) (x : Int32) : Prop := match o with
  | none => x = -1
  | some p => x = nI p
def eU (S : Nat) (o : Option (Nat × Nat × Nat)) (t m f : Int32) : Prop := match o with
  | none => t = -1
  | some q => t = nI q.1 ∧ m = nI q.2.1 ∧ (S ≠ 0 → f = nI q.2.2)
theorem eQ_m1 {o : Option Nat} {x : Int32} (h : eQ o x) (hb : ∀ p, o = some p → p < 2 ^ 31) : x = -1 ↔ o = none := by
  cases o with
  | none => exact ⟨fun _ => rfl, fun _ => h⟩
  | some p =>
    refine ⟨fun e => ?_, fun e => by cases e⟩
    have h2 : x = nI p := h
    have := nI_pos' (n := p) (hb p rfl)
    rw [← h2, e] at this
    exact absurd this (by decide)
theorem eU_m1 {S : Nat} {o : Option (Nat × Nat × Nat)} {t m f : Int32} (h : eU S o t m f) (hb : ∀ q, o = some q → q.1 < 2 ^ 31) : t = -1 ↔ o = none := by
  cases o with
  | none => exact ⟨fun _ => rfl, fun _ => h⟩
  | some q =>
    refine ⟨fun e => ?_, fun e => by cases e⟩
    have h2 : t = nI q.1 := h.1
    have := nI_pos' (n := q.1) (hb q rfl)
    rw [← h2, e] at this
    exact absurd this (by decide)
theorem andn_i : ∀ S, S < 128 → ∀ h, h < 128 → h &&& S = h → nI S &&& (nI h ^^^ -1) = nI (S ^^^ h) ∧ (S ^^^ h) < 128 ∧ (0 < h → S ^^^ h < S) := by decide +kernel
theorem andI : ∀ a, a < 128 → ∀ b, b < 128 → nI a &&& nI b = nI (a &&& b) ∧ a &&& b < 128 := by decide +kernel
def cF (pr : Nat → Option Nat) (S h : Nat) : Option (Nat × Nat × Nat) := ((List.range h).filter (fun x => x &&& S == x && (x &&& lowb S != 0))).foldl (fun cur x => plTry pr (plTab pr S) S x cur) none
theorem cF_y {pr : Nat → Option Nat} {S h : Nat} (h1 : h &&& S = h) (h2 : ¬ h &&& lowb S = 0) : cF pr S (h + 1) = plTry pr (plTab pr S) S h (cF pr S h) := by
  have hp : (h &&& S == h && (h &&& lowb S != 0)) = true := by simp [h1, h2]
  unfold cF
  rw [List.range_succ, List.filter_append, List.foldl_append]
  simp [hp]
theorem cF_n {pr : Nat → Option Nat} {S h : Nat} (h1 : ¬ (h &&& S = h ∧ ¬ h &&& lowb S = 0)) : cF pr S (h + 1) = cF pr S h := by
  have hp : (h &&& S == h && (h &&& lowb S != 0)) = false := by
    rw [Bool.eq_false_iff]
    intro e
    rw [Bool.and_eq_true, beq_iff_eq, bne_iff_ne] at e
    exact h1 e
  unfold cF
  rw [List.range_succ, List.filter_append, List.foldl_append]
  simp [hp]
theorem cF_end {pr : Nat → Option Nat} {S : Nat} (h0 : 0 < S) : cF pr S (S + 1) = plTab pr (S + 1) S := by
  have e : plTab pr (S + 1) S = plCell pr (plTab pr S) S := by
    rw [plTab]
    show (if S = S then (if S = 0 then some (0, 0, 0) else plCell pr (plTab pr S) S) else plTab pr S S) = _
    rw [if_pos rfl, if_neg (by omega)]
  rw [e]
  rfl
theorem cF_1 {pr : Nat → Option Nat} {S : Nat} : cF pr S 1 = none := by
  rw [show (1 : Nat) = 0 + 1 from rfl, cF_n (fun e => e.2 (by simp))]
  rfl
theorem cF_B {pr : Nat → Option Nat} (hpr : ∀ h p, pr h = some p → p ≤ 2000) {S h : Nat} (hS : S < 128) (hh : h ≤ S + 1) : plB (cF pr S h) S := by
  refine plB_fold hpr (fun S' hS' => plTab_B hpr S (by omega) S') hS _ none (fun x hx => ?_) (fun q hq => by cases hq)
  have h2 := List.mem_filter.mp hx
  rw [Bool.and_eq_true, beq_iff_eq, bne_iff_ne] at h2
  exact hsL_mem.mpr ⟨by have := List.mem_range.mp h2.1; omega, h2.2.1, h2.2.2⟩
section S64
variable {l : Launch} {D : va_G} {cy : Nat → ClassId} {ad : Nat → Nat → Nat} {G d : Nat}
theorem kPr_q {M0 : wS} {O nb nt r e1 e2 S : Nat} (h : S &&& O = S ∧ kTied M0 nt (nI S) ∧ 0 ≤ kLeast (kTieM M0 nt (nI S)) nb r e1 e2 0) : eQ (kPr M0 O nb nt r e1 e2 S) (kLeast (kTieM M0 nt (nI S)) nb r e1 e2 0) := by
  unfold kPr
  rw [if_pos h]
  exact toNat_nI h.2.2
theorem kPr_n {M0 : wS} {O nb nt r e1 e2 S : Nat} (h : ¬ (S &&& O = S ∧ kTied M0 nt (nI S) ∧ 0 ≤ kLeast (kTieM M0 nt (nI S)) nb r e1 e2 0)) : eQ (kPr M0 O nb nt r e1 e2 S) (-1) := by
  unfold kPr
  rw [if_neg h]
  rfl
theorem l1_X10_plans {p : Program} {e : Env} {s : State} {m : MethodId} {args : Array Value} {below : List Frame} {meth : Method} {c : Code} (C : CX p s m args c cX10_plans 7 "CostsAgeModel" D cy ad G (wA ad G) (Rm d) d 0 0) (hr : meth.sig.returnType = none) (hlk : meth.locks = false) (hG : 56 ≤ G) (hd : 45 ≤ d) {M0 Ms : wS} {nb nt r e1 e2 e3 O : Nat} (hC : rC M0 Ms nb nt r e1 e2 e3) (hU : uO M0 nt O) (Qf : wS → Prop) : ∀ (n S : Nat) (M : wS), S + n = 128 → 1 ≤ S → qF Ms M → (∀ h, 1 ≤ h → h < S → eQ (kPr M0 O nb nt r e1 e2 h) (M.1 45 0 h)) → (∀ M', qF Ms M' → (∀ h, 1 ≤ h → h < 128 → eQ (kPr M0 O nb nt r e1 e2 h) (M'.1 45 0 h)) → V p l e (Rm d) s m args below meth c 7 D cy ad G (wA ad G) 0 0 (MQ below (wQ D cy ad G (rV Qf)) args s 0 0 (wA ad G)) 63 [(0, .ref (ad 30 0)), (1, .int (nI O)), (2, .int (nI 128))] [] M') → V p l e (Rm d) s m args below meth c 7 D cy ad G (wA ad G) 0 0 (MQ below (wQ D cy ad G (rV Qf)) args s 0 0 (wA ad G)) 7 [(0, .ref (ad 30 0)), (1, .int (nI O)), (2, .int (nI S))] [] M := by
  have hn7 := hC.1.2.1.2
  intro n
  induction n with
  | zero =>
    intro S M hS hS1 hF hR hQ
    obtain rfl : S = 128 := by omega
    refine V_iload_n (pc := 7) C 2 dX10_plans_7 rfl rfl ?_
    refine V_sipush (v := 128) (pc := 8) C dX10_plans_8 (by decide) ?_
    refine V_icmp_ge (tgt := 63) (pc := 11) C dX10_plans_11 (by decide) (fun h_11 => ?_) (fun h_11 => ?_)
    · exact hQ M hF hR
    · exact absurd (nI_le (a := 128) (b := 128) (Nat.le_refl _) (by decide)) h_11
  | succ n ih =>
    intro S M hS hS1 hF hR hQ
    have hF1 : qF Ms (mset M 45 0 S (-1)) := hF.tr (qF.arr _ (by decide))
    have key : ∀ (M1 : wS), qF (mset M 45 0 S (-1)) M1 → (∀ j, M1.1 45 0 j = (mset M 45 0 S (-1)).1 45 0 j) → eQ (kPr M0 O nb nt r e1 e2 S) (-1) → (∀ h, 1 ≤ h → h < S + 1 → eQ (kPr M0 O nb nt r e1 e2 h) (M1.1 45 0 h)) := by
      intro M1 hM1 h45 hn h q1 q2
      rw [h45, mset_at]
      by_cases e : h = S
      · rw [if_pos ⟨rfl, rfl, e⟩, e]
        exact hn
      · rw [if_neg (fun z => e z.2.2)]
        exact hR h q1 (by omega)
    refine V_iload_n (pc := 7) C 2 dX10_plans_7 rfl rfl ?_
    refine V_sipush (v := 128) (pc := 8) C dX10_plans_8 (by decide) ?_
    refine V_icmp_ge (tgt := 63) (pc := 11) C dX10_plans_11 (by decide) (fun h_11 => ?_) (fun h_11 => ?_)
    · exact absurd h_11 (nI_ge (b := 128) (by omega) (by decide))
    · refine V_aload_n (pc := 14) C 0 dX10_plans_14 rfl rfl ?_
      refine get_X10_59 (pc := 15) C (wg hG (by decide) (by decide)) dX10_plans_15 ?_
      refine V_iload_n (pc := 18) C 2 dX10_plans_18 rfl rfl ?_
      refine V_iconst (v := -1) (pc := 19) C dX10_plans_19 (by decide) ?_
      refine V_iast (pc := 20) C (S) rfl (by omega) (Nat.le_of_ble_eq_true rfl) (wg hG (by decide) (by decide)) (fun _ => wF_45) dX10_plans_20 ?_
      refine V_iload_n (pc := 21) C 2 dX10_plans_21 rfl rfl ?_
      refine V_iload_n (pc := 22) C 1 dX10_plans_22 rfl rfl ?_
      refine V_iconst (v := -1) (pc := 23) C dX10_plans_23 (by decide) ?_
      refine V_ixor (pc := 24) C dX10_plans_24 ?_
      refine V_iand (pc := 25) C dX10_plans_25 ?_
      refine V_if_ne (tgt := 57) (pc := 26) C dX10_plans_26 (by decide) (fun h_26 => ?_) (fun h_26 => ?_)
      · have hno : ¬ S &&& O = S := fun e => h_26 (by rw [and_i S (by omega) O hU.2.2]; exact e)
        have k1 := key _ qF.rf (fun _ => rfl) (kPr_n (fun e => hno e.1))
        refine Vs_iinc (v := nI (S + 1)) (lv' := [(0, _), (1, _), (2, _)]) (pc := 57) C 2 dX10_plans_57 rfl (by decide) rfl (nI_i1 (S)) rfl ?_
        refine V_goto (tgt := 7) (pc := 60) C dX10_plans_60 (by decide) ?_
        exact ih (S + 1) _ (by omega) (by omega) hF1 k1 hQ
      · have hso : S &&& O = S := by rw [← and_i S (by omega) O hU.2.2]; exact h_26
        refine V_aload_n (pc := 29) C 0 dX10_plans_29 rfl rfl ?_
        refine V_iload_n (pc := 30) C 2 dX10_plans_30 rfl rfl ?_
        refine call_X10_294 (pc := 31) C (r_mayBeTied (d := d - 1) hG (by omega) (hC.q hF1) hU (nI S)) (by omega) (wg hG (by decide) (by decide)) (Nat.le_of_ble_eq_true rfl) dX10_plans_31 (fun x_31 M_31 h_31 => ?_)
        obtain ⟨e_31, rfl⟩ := h_31
        have e_31 := e_31.symm
        subst e_31
        refine V_if_eq (tgt := 57) (pc := 34) C dX10_plans_34 (by decide) (fun h_34 => ?_) (fun h_34 => ?_)
        · have h_34 := bJ_0.mp h_34
          have k1 := key _ qF.rf (fun _ => rfl) (kPr_n (fun e => h_34 e.2.1))
          refine Vs_iinc (v := nI (S + 1)) (lv' := [(0, _), (1, _), (2, _)]) (pc := 57) C 2 dX10_plans_57 rfl (by decide) rfl (nI_i1 (S)) rfl ?_
          refine V_goto (tgt := 7) (pc := 60) C dX10_plans_60 (by decide) ?_
          exact ih (S + 1) _ (by omega) (by omega) hF1 k1 hQ
        · have h_34 := bJ_1.mp h_34
          refine V_aload_n (pc := 37) C 0 dX10_plans_37 rfl rfl ?_
          refine V_iload_n (pc := 38) C 2 dX10_plans_38 rfl rfl ?_
          refine V_iconst (v := 0) (pc := 39) C dX10_plans_39 (by decide) ?_
          refine call_X10_303 (pc := 40) C (r_bestOf (d := d - 1) hG (by omega) (hC.q hF1) (shw_tie hn7 (kTied_cnt hn7 hU h_34)) (wk := 0) (by decide)) (by omega) (wg hG (by decide) (by decide)) (Nat.le_of_ble_eq_true rfl) dX10_plans_40 (fun x_40 M_40 h_40 => ?_)
          obtain ⟨f1, f2⟩ := h_40
          have hF2 := hF1.tr (f1.q (by decide))
          have h45 : ∀ j, M_40.1 45 0 j = (mset M 45 0 S (-1)).1 45 0 j := fun j => by rw [f1.1 45 0 (by decide)]
          refine V_iconst (v := -1) (pc := 43) C dX10_plans_43 (by decide) ?_
          refine V_icmp_eq (tgt := 57) (pc := 44) C dX10_plans_44 (by decide) (fun h_44 => ?_) (fun h_44 => ?_)
          · have hlt : ¬ 0 ≤ kLeast (kTieM M0 nt (nI S)) nb r e1 e2 0 := by
              rcases f2 with ⟨a1, a2⟩ | ⟨a1, a2, j, a3, a4, a5⟩
              · exact Int32.not_le.mpr a1
              · exact absurd (a4.symm.trans h_44) (nIm1 (by have := hC.1.1.2; omega))
            have k1 := key _ (f1.q (by decide)) h45 (kPr_n (fun e => hlt e.2.2))
            refine Vs_iinc (v := nI (S + 1)) (lv' := [(0, _), (1, _), (2, _)]) (pc := 57) C 2 dX10_plans_57 rfl (by decide) rfl (nI_i1 (S)) rfl ?_
            refine V_goto (tgt := 7) (pc := 60) C dX10_plans_60 (by decide) ?_
            exact ih (S + 1) _ (by omega) (by omega) hF2 k1 hQ
          · have hge : 0 ≤ kLeast (kTieM M0 nt (nI S)) nb r e1 e2 0 ∧ M_40.1 30 0 37 = kLeast (kTieM M0 nt (nI S)) nb r e1 e2 0 := by
              rcases f2 with ⟨a1, a2⟩ | ⟨a1, a2, j, a3, a4, a5⟩
              · exact absurd a2 h_44
              · exact ⟨a1, a2⟩
            refine V_aload_n (pc := 47) C 0 dX10_plans_47 rfl rfl ?_
            refine get_X10_59 (pc := 48) C (wg hG (by decide) (by decide)) dX10_plans_48 ?_
            refine V_iload_n (pc := 51) C 2 dX10_plans_51 rfl rfl ?_
            refine V_aload_n (pc := 52) C 0 dX10_plans_52 rfl rfl ?_
            refine get_X10_300 (pc := 53) C (wg hG (by decide) (by decide)) dX10_plans_53 ?_
            refine V_iast (pc := 56) C (S) rfl (by omega) (Nat.le_of_ble_eq_true rfl) (wg hG (by decide) (by decide)) (fun _ => wF_45) dX10_plans_56 ?_
            rw [hge.2]
            refine Vs_iinc (v := nI (S + 1)) (lv' := [(0, _), (1, _), (2, _)]) (pc := 57) C 2 dX10_plans_57 rfl (by decide) rfl (nI_i1 (S)) rfl ?_
            refine V_goto (tgt := 7) (pc := 60) C dX10_plans_60 (by decide) ?_
            refine ih (S + 1) _ (by omega) (by omega) (hF2.tr (qF.arr _ (by decide))) (fun h q1 q2 => ?_) hQ
            rw [mset_at]
            by_cases e : h = S
            · rw [if_pos ⟨rfl, rfl, e⟩, e]
              exact kPr_q ⟨hso, h_34, hge.1⟩
            · rw [if_neg (fun z => e z.2.2), h45, mset_at, if_neg (fun z => e z.2.2)]
              exact hR h q1 (by omega)
def tabU (pr : Nat → Option Nat) (M : wS) (B : Nat) : Prop := ∀ S', S' < B → eU S' (plTab pr 128 S') (M.1 42 0 S') (M.1 43 0 S') (M.1 44 0 S')
theorem plTab_28 {pr : Nat → Option Nat} {S S' : Nat} (h : S' < S) (hS : S ≤ 128) : plTab pr S S' = plTab pr 128 S' := by rw [plTab_lt h, plTab_lt (n := 128) (by omega)]
theorem l2_X10_plans {p : Program} {e : Env} {s : State} {m : MethodId} {args : Array Value} {below : List Frame} {meth : Method} {c : Code} (C : CX p s m args c cX10_plans 7 "CostsAgeModel" D cy ad G (wA ad G) (Rm d) d 0 0) (hr : meth.sig.returnType = none) (hlk : meth.locks = false) (hG : 56 ≤ G) {pr : Nat → Option Nat} (hpr : ∀ h p, pr h = some p → p ≤ 2000) {Ms : wS} {S : Nat} (h0 : 0 < S) (hS : S < 128) (lf : Int32) (Qf : wS → Prop) : ∀ (n h : Nat) (M : wS), h + n = S + 1 → 1 ≤ h → qF Ms M → (∀ h, 1 ≤ h → h < 128 → eQ (pr h) (M.1 45 0 h)) → tabU pr M S → eU S (cF pr S h) (M.1 42 0 S) (M.1 43 0 S) (M.1 44 0 S) → (∀ M', qF Ms M' → (∀ h, 1 ≤ h → h < 128 → eQ (pr h) (M'.1 45 0 h)) → tabU pr M' (S + 1) → V p l e (Rm d) s m args below meth c 7 D cy ad G (wA ad G) 0 0 (MQ below (wQ D cy ad G (rV Qf)) args s 0 0 (wA ad G)) 258 [(0, .ref (ad 30 0)), (1, .int lf), (2, .int (nI S))] [] M') → V p l e (Rm d) s m args below meth c 7 D cy ad G (wA ad G) 0 0 (MQ below (wQ D cy ad G (rV Qf)) args s 0 0 (wA ad G)) 101 [(0, .ref (ad 30 0)), (1, .int lf), (2, .int (nI S)), (3, .int (nI (lowb S))), (4, .int (nI h))] [] M := by
  intro n
  induction n with
  | zero =>
    intro h M hh h1 hF hR hT hc hQ
    refine V_iload (pc := 101) C 4 dX10_plans_101 rfl ?_
    refine V_iload_n (pc := 103) C 2 dX10_plans_103 rfl rfl ?_
    refine V_icmp_gt (tgt := 258) (pc := 104) C dX10_plans_104 (by decide) (fun h_104 => ?_) (fun h_104 => ?_)
    · refine V_loc (lv' := [(0, _), (1, _), (2, _)]) [0, 1, 2] rfl ?_
      refine hQ M hF hR (fun S' hS' => ?_)
      by_cases e : S' = S
      · rw [e]
        rw [show h = S + 1 by omega, cF_end h0, plTab_28 (Nat.lt_succ_self S) (by omega)] at hc
        exact hc
      · exact hT S' (by omega)
    · exact absurd (nI_lt (a := S) (b := h) (by omega) (by omega)) h_104
  | succ n ih =>
    intro h M hh h1 hF hR hT hc hQ
    have hlb := lowb_lt S hS
    have hand := andI h (by omega) (lowb S) hlb.1
    have hcB := cF_B hpr hS (show h ≤ S + 1 by omega)
    have skip : cF pr S (h + 1) = cF pr S h → ∀ (st : List (Nat × Value)), V p l e (Rm d) s m args below meth c 7 D cy ad G (wA ad G) 0 0 (MQ below (wQ D cy ad G (rV Qf)) args s 0 0 (wA ad G)) 101 [(0, .ref (ad 30 0)), (1, .int lf), (2, .int (nI S)), (3, .int (nI (lowb S))), (4, .int (nI (h + 1)))] [] M := fun e _ => ih (h + 1) M (by omega) (by omega) hF hR hT (by rw [e]; exact hc) hQ
    refine V_iload (pc := 101) C 4 dX10_plans_101 rfl ?_
    refine V_iload_n (pc := 103) C 2 dX10_plans_103 rfl rfl ?_
    refine V_icmp_gt (tgt := 258) (pc := 104) C dX10_plans_104 (by decide) (fun h_104 => ?_) (fun h_104 => ?_)
    · exact absurd h_104 (nI_nlt (by omega) (by omega))
    · refine V_iload (pc := 107) C 4 dX10_plans_107 rfl ?_
      refine V_iload_n (pc := 109) C 2 dX10_plans_109 rfl rfl ?_
      refine V_iconst (v := -1) (pc := 110) C dX10_plans_110 (by decide) ?_
      refine V_ixor (pc := 111) C dX10_plans_111 ?_
      refine V_iand (pc := 112) C dX10_plans_112 ?_
      refine V_if_ne (tgt := 252) (pc := 113) C dX10_plans_113 (by decide) (fun h_113 => ?_) (fun h_113 => ?_)
      · have hno : ¬ h &&& S = h := fun e => h_113 (by rw [and_i h (by omega) S hS]; exact e)
        have hsk := skip (cF_n (fun e => hno e.1)) []
        refine Vs_iinc (v := nI (h + 1)) (lv' := [(0, _), (1, _), (2, _), (3, _), (4, _)]) (pc := 252) C 4 dX10_plans_252 rfl (by decide) rfl (nI_i1 (h)) rfl ?_
        refine V_goto (tgt := 101) (pc := 255) C dX10_plans_255 (by decide) ?_
        exact hsk
      · have hsub : h &&& S = h := by rw [← and_i h (by omega) S hS]; exact h_113
        obtain ⟨x1, x2, x3⟩ := andn_i S hS h (by omega) hsub
        have x4 := x3 (by omega)
        have hpt := plTab_B hpr 128 (Nat.le_refl _) (S ^^^ h)
        have hTT := hT (S ^^^ h) x4
        have hph := hR h h1 (by omega)
        refine V_iload (pc := 116) C 4 dX10_plans_116 rfl ?_
        refine V_iload_n (pc := 118) C 3 dX10_plans_118 rfl rfl ?_
        refine V_iand (pc := 119) C dX10_plans_119 ?_
        refine V_if_eq (tgt := 252) (pc := 120) C dX10_plans_120 (by decide) (fun h_120 => ?_) (fun h_120 => ?_)
        · rw [hand.1] at h_120
          have hno : h &&& lowb S = 0 := (nI_eq (b := 0) (by omega) (by decide)).mp h_120
          have hsk := skip (cF_n (fun e => e.2 hno)) []
          refine Vs_iinc (v := nI (h + 1)) (lv' := [(0, _), (1, _), (2, _), (3, _), (4, _)]) (pc := 252) C 4 dX10_plans_252 rfl (by decide) rfl (nI_i1 (h)) rfl ?_
          refine V_goto (tgt := 101) (pc := 255) C dX10_plans_255 (by decide) ?_
          exact hsk
        · rw [hand.1] at h_120
          have hlo : ¬ h &&& lowb S = 0 := fun e => h_120 (by rw [e]; rfl)
          have hcy := cF_y (pr := pr) hsub hlo
          refine V_aload_n (pc := 123) C 0 dX10_plans_123 rfl rfl ?_
          refine get_X10_59 (pc := 124) C (wg hG (by decide) (by decide)) dX10_plans_124 ?_
          refine V_iload (pc := 127) C 4 dX10_plans_127 rfl ?_
          refine V_iald (pc := 129) C (h) rfl (by omega) (Nat.le_of_ble_eq_true rfl) (wg hG (by decide) (by decide)) wF_45 dX10_plans_129 ?_
          refine V_iconst (v := -1) (pc := 130) C dX10_plans_130 (by decide) ?_
          refine V_icmp_eq (tgt := 252) (pc := 131) C dX10_plans_131 (by decide) (fun h_131 => ?_) (fun h_131 => ?_)
          · have hno := (eQ_m1 hph (fun p hp => by have := hpr h p hp; omega)).mp h_131
            have hsk := skip (by rw [hcy, plTry, hno]) []
            refine Vs_iinc (v := nI (h + 1)) (lv' := [(0, _), (1, _), (2, _), (3, _), (4, _)]) (pc := 252) C 4 dX10_plans_252 rfl (by decide) rfl (nI_i1 (h)) rfl ?_
            refine V_goto (tgt := 101) (pc := 255) C dX10_plans_255 (by decide) ?_
            exact hsk
          · have hsome : ¬ pr h = none := fun e => h_131 ((eQ_m1 hph (fun p hp => by have := hpr h p hp; omega)).mpr e)
            obtain ⟨p0, hp0⟩ := Option.ne_none_iff_exists'.mp hsome
            rw [hp0] at hph
            have hph : M.1 45 0 h = nI p0 := hph
            have hpb := hpr h p0 hp0
            refine V_aload_n (pc := 134) C 0 dX10_plans_134 rfl rfl ?_
            refine get_X10_50 (pc := 135) C (wg hG (by decide) (by decide)) dX10_plans_135 ?_
            refine V_iload_n (pc := 138) C 2 dX10_plans_138 rfl rfl ?_
            refine V_iload (pc := 139) C 4 dX10_plans_139 rfl ?_
            refine V_iconst (v := -1) (pc := 141) C dX10_plans_141 (by decide) ?_
            refine V_ixor (pc := 142) C dX10_plans_142 ?_
            refine V_iand (pc := 143) C dX10_plans_143 ?_
            rw [x1]
            refine V_iald (pc := 144) C (S ^^^ h) rfl x2 (Nat.le_of_ble_eq_true rfl) (wg hG (by decide) (by decide)) wF_42 dX10_plans_144 ?_
            refine V_iconst (v := -1) (pc := 145) C dX10_plans_145 (by decide) ?_
            refine V_icmp_eq (tgt := 252) (pc := 146) C dX10_plans_146 (by decide) (fun h_146 => ?_) (fun h_146 => ?_)
            · have hno := (eU_m1 hTT (fun q hq => by have := hpt q hq; omega)).mp h_146
              have hsk := skip (by rw [hcy, plTry, hp0, plTab_28 x4 (by omega), hno]) []
              refine Vs_iinc (v := nI (h + 1)) (lv' := [(0, _), (1, _), (2, _), (3, _), (4, _)]) (pc := 252) C 4 dX10_plans_252 rfl (by decide) rfl (nI_i1 (h)) rfl ?_
              refine V_goto (tgt := 101) (pc := 255) C dX10_plans_255 (by decide) ?_
              exact hsk
            · have hsome2 : ¬ plTab pr 128 (S ^^^ h) = none := fun e => h_146 ((eU_m1 hTT (fun q hq => by have := hpt q hq; omega)).mpr e)
              obtain ⟨q0, hq0⟩ := Option.ne_none_iff_exists'.mp hsome2
              rw [hq0] at hTT
              have hqb := hpt q0 hq0
              have hstep : cF pr S (h + 1) = plBetter (cF pr S h) (p0 + q0.1) (1 + q0.2.1) h := by rw [hcy, plTry, hp0, plTab_28 x4 (by omega), hq0]
              refine V_aload_n (pc := 149) C 0 dX10_plans_149 rfl rfl ?_
              refine get_X10_59 (pc := 150) C (wg hG (by decide) (by decide)) dX10_plans_150 ?_
              refine V_iload (pc := 153) C 4 dX10_plans_153 rfl ?_
              refine V_iald (pc := 155) C (h) rfl (by omega) (Nat.le_of_ble_eq_true rfl) (wg hG (by decide) (by decide)) wF_45 dX10_plans_155 ?_
              refine V_aload_n (pc := 156) C 0 dX10_plans_156 rfl rfl ?_
              refine get_X10_50 (pc := 157) C (wg hG (by decide) (by decide)) dX10_plans_157 ?_
              refine V_iload_n (pc := 160) C 2 dX10_plans_160 rfl rfl ?_
              refine V_iload (pc := 161) C 4 dX10_plans_161 rfl ?_
              refine V_iconst (v := -1) (pc := 163) C dX10_plans_163 (by decide) ?_
              refine V_ixor (pc := 164) C dX10_plans_164 ?_
              refine V_iand (pc := 165) C dX10_plans_165 ?_
              rw [x1]
              refine V_iald (pc := 166) C (S ^^^ h) rfl x2 (Nat.le_of_ble_eq_true rfl) (wg hG (by decide) (by decide)) wF_42 dX10_plans_166 ?_
              refine V_iadd (pc := 167) C dX10_plans_167 ?_
              rw [hph, hTT.1, nI_add]
              refine Vs_istore (lv' := [(0, _), (1, _), (2, _), (3, _), (4, _), (5, _)]) (pc := 168) C dX10_plans_168 (by decide) rfl rfl ?_
              refine V_iconst (v := 1) (pc := 170) C dX10_plans_170 (by decide) ?_
              refine V_aload_n (pc := 171) C 0 dX10_plans_171 rfl rfl ?_
              refine get_X10_53 (pc := 172) C (wg hG (by decide) (by decide)) dX10_plans_172 ?_
              refine V_iload_n (pc := 175) C 2 dX10_plans_175 rfl rfl ?_
              refine V_iload (pc := 176) C 4 dX10_plans_176 rfl ?_
              refine V_iconst (v := -1) (pc := 178) C dX10_plans_178 (by decide) ?_
              refine V_ixor (pc := 179) C dX10_plans_179 ?_
              refine V_iand (pc := 180) C dX10_plans_180 ?_
              rw [x1]
              refine V_iald (pc := 181) C (S ^^^ h) rfl x2 (Nat.le_of_ble_eq_true rfl) (wg hG (by decide) (by decide)) wF_43 dX10_plans_181 ?_
              refine V_iadd (pc := 182) C dX10_plans_182 ?_
              rw [hTT.2.1, show (1 : Int32) = nI 1 from rfl, nI_add]
              refine Vs_istore (lv' := [(0, _), (1, _), (2, _), (3, _), (4, _), (5, _), (6, _)]) (pc := 183) C dX10_plans_183 (by decide) rfl rfl ?_
              refine V_aload_n (pc := 185) C 0 dX10_plans_185 rfl rfl ?_
              refine get_X10_50 (pc := 186) C (wg hG (by decide) (by decide)) dX10_plans_186 ?_
              refine V_iload_n (pc := 189) C 2 dX10_plans_189 rfl rfl ?_
              refine V_iald (pc := 190) C (S) rfl hS (Nat.le_of_ble_eq_true rfl) (wg hG (by decide) (by decide)) wF_42 dX10_plans_190 ?_
              refine V_iconst (v := -1) (pc := 191) C dX10_plans_191 (by decide) ?_
              refine V_icmp_eq (tgt := 228) (pc := 192) C dX10_plans_192 (by decide) (fun h_192 => ?_) (fun h_192 => ?_)
              · have hcn := (eU_m1 hc (fun q hq => by have := hcB q hq; omega)).mp h_192
                have htk : cF pr S (h + 1) = some (p0 + q0.1, 1 + q0.2.1, h) := by rw [hstep, hcn, plBetter]
                refine V_aload_n (pc := 228) C 0 dX10_plans_228 rfl rfl ?_
                refine get_X10_50 (pc := 229) C (wg hG (by decide) (by decide)) dX10_plans_229 ?_
                refine V_iload_n (pc := 232) C 2 dX10_plans_232 rfl rfl ?_
                refine V_iload (pc := 233) C 5 dX10_plans_233 rfl ?_
                refine V_iast (pc := 235) C (S) rfl hS (Nat.le_of_ble_eq_true rfl) (wg hG (by decide) (by decide)) (fun _ => wF_42) dX10_plans_235 ?_
                refine V_aload_n (pc := 236) C 0 dX10_plans_236 rfl rfl ?_
                refine get_X10_53 (pc := 237) C (wg hG (by decide) (by decide)) dX10_plans_237 ?_
                refine V_iload_n (pc := 240) C 2 dX10_plans_240 rfl rfl ?_
                refine V_iload (pc := 241) C 6 dX10_plans_241 rfl ?_
                refine V_iast (pc := 243) C (S) rfl hS (Nat.le_of_ble_eq_true rfl) (wg hG (by decide) (by decide)) (fun _ => wF_43) dX10_plans_243 ?_
                refine V_aload_n (pc := 244) C 0 dX10_plans_244 rfl rfl ?_
                refine get_X10_56 (pc := 245) C (wg hG (by decide) (by decide)) dX10_plans_245 ?_
                refine V_iload_n (pc := 248) C 2 dX10_plans_248 rfl rfl ?_
                refine V_iload (pc := 249) C 4 dX10_plans_249 rfl ?_
                refine V_iast (pc := 251) C (S) rfl hS (Nat.le_of_ble_eq_true rfl) (wg hG (by decide) (by decide)) (fun _ => wF_44) dX10_plans_251 ?_
                refine Vs_iinc (v := nI (h + 1)) (lv' := [(0, _), (1, _), (2, _), (3, _), (4, _), (5, _), (6, _)]) (pc := 252) C 4 dX10_plans_252 rfl (by decide) rfl (nI_i1 (h)) rfl ?_
                refine V_goto (tgt := 101) (pc := 255) C dX10_plans_255 (by decide) ?_
                refine V_loc (lv' := [(0, _), (1, _), (2, _), (3, _), (4, _)]) [0, 1, 2, 3, 4] rfl ?_
                first | exact hsk | (refine ih (h + 1) _ (by omega) (by omega) (((hF.tr (qF.arr _ (by decide))).tr (qF.arr _ (by decide))).tr (qF.arr _ (by decide))) (fun h' q1 q2 => ?_) (fun S' hS' => ?_) ?_ hQ; (rw [mset_at, if_neg (by omega), mset_at, if_neg (by omega), mset_at, if_neg (by omega)]; exact hR h' q1 q2); (simp only [mset_at]; rw [if_neg (by omega), if_neg (by omega), if_neg (by omega), if_neg (by omega), if_neg (by omega), if_neg (by omega), if_neg (by omega), if_neg (by omega), if_neg (by omega)]; exact hT S' hS'); (rw [htk]; simp only [mset_at]; exact ⟨by simp, by simp, fun _ => by simp⟩))
              · have hcs : ¬ cF pr S h = none := fun e => h_192 ((eU_m1 hc (fun q hq => by have := hcB q hq; omega)).mpr e)
                obtain ⟨c0, hc0⟩ := Option.ne_none_iff_exists'.mp hcs
                have hc2 := hc
                rw [hc0] at hc2
                have hcb := hcB c0 hc0
                have hst2 : cF pr S (h + 1) = if p0 + q0.1 < c0.1 ∨ (p0 + q0.1 = c0.1 ∧ 1 + q0.2.1 < c0.2.1) then some (p0 + q0.1, 1 + q0.2.1, h) else some c0 := by rw [hstep, hc0, plBetter]
                refine V_iload (pc := 195) C 5 dX10_plans_195 rfl ?_
                refine V_aload_n (pc := 197) C 0 dX10_plans_197 rfl rfl ?_
                refine get_X10_50 (pc := 198) C (wg hG (by decide) (by decide)) dX10_plans_198 ?_
                refine V_iload_n (pc := 201) C 2 dX10_plans_201 rfl rfl ?_
                refine V_iald (pc := 202) C (S) rfl hS (Nat.le_of_ble_eq_true rfl) (wg hG (by decide) (by decide)) wF_42 dX10_plans_202 ?_
                refine V_icmp_lt (tgt := 228) (pc := 203) C dX10_plans_203 (by decide) (fun h_203 => ?_) (fun h_203 => ?_)
                · rw [hc2.1, nI_ltI (by omega) (by omega)] at h_203
                  have htk : cF pr S (h + 1) = some (p0 + q0.1, 1 + q0.2.1, h) := by rw [hst2, if_pos (Or.inl h_203)]
                  refine V_aload_n (pc := 228) C 0 dX10_plans_228 rfl rfl ?_
                  refine get_X10_50 (pc := 229) C (wg hG (by decide) (by decide)) dX10_plans_229 ?_
                  refine V_iload_n (pc := 232) C 2 dX10_plans_232 rfl rfl ?_
                  refine V_iload (pc := 233) C 5 dX10_plans_233 rfl ?_
                  refine V_iast (pc := 235) C (S) rfl hS (Nat.le_of_ble_eq_true rfl) (wg hG (by decide) (by decide)) (fun _ => wF_42) dX10_plans_235 ?_
                  refine V_aload_n (pc := 236) C 0 dX10_plans_236 rfl rfl ?_
                  refine get_X10_53 (pc := 237) C (wg hG (by decide) (by decide)) dX10_plans_237 ?_
                  refine V_iload_n (pc := 240) C 2 dX10_plans_240 rfl rfl ?_
                  refine V_iload (pc := 241) C 6 dX10_plans_241 rfl ?_
                  refine V_iast (pc := 243) C (S) rfl hS (Nat.le_of_ble_eq_true rfl) (wg hG (by decide) (by decide)) (fun _ => wF_43) dX10_plans_243 ?_
                  refine V_aload_n (pc := 244) C 0 dX10_plans_244 rfl rfl ?_
                  refine get_X10_56 (pc := 245) C (wg hG (by decide) (by decide)) dX10_plans_245 ?_
                  refine V_iload_n (pc := 248) C 2 dX10_plans_248 rfl rfl ?_
                  refine V_iload (pc := 249) C 4 dX10_plans_249 rfl ?_
                  refine V_iast (pc := 251) C (S) rfl hS (Nat.le_of_ble_eq_true rfl) (wg hG (by decide) (by decide)) (fun _ => wF_44) dX10_plans_251 ?_
                  refine Vs_iinc (v := nI (h + 1)) (lv' := [(0, _), (1, _), (2, _), (3, _), (4, _), (5, _), (6, _)]) (pc := 252) C 4 dX10_plans_252 rfl (by decide) rfl (nI_i1 (h)) rfl ?_
                  refine V_goto (tgt := 101) (pc := 255) C dX10_plans_255 (by decide) ?_
                  refine V_loc (lv' := [(0, _), (1, _), (2, _), (3, _), (4, _)]) [0, 1, 2, 3, 4] rfl ?_
                  first | exact hsk | (refine ih (h + 1) _ (by omega) (by omega) (((hF.tr (qF.arr _ (by decide))).tr (qF.arr _ (by decide))).tr (qF.arr _ (by decide))) (fun h' q1 q2 => ?_) (fun S' hS' => ?_) ?_ hQ; (rw [mset_at, if_neg (by omega), mset_at, if_neg (by omega), mset_at, if_neg (by omega)]; exact hR h' q1 q2); (simp only [mset_at]; rw [if_neg (by omega), if_neg (by omega), if_neg (by omega), if_neg (by omega), if_neg (by omega), if_neg (by omega), if_neg (by omega), if_neg (by omega), if_neg (by omega)]; exact hT S' hS'); (rw [htk]; simp only [mset_at]; exact ⟨by simp, by simp, fun _ => by simp⟩))
                · rw [hc2.1, nI_ltI (by omega) (by omega)] at h_203
                  refine V_iload (pc := 206) C 5 dX10_plans_206 rfl ?_
                  refine V_aload_n (pc := 208) C 0 dX10_plans_208 rfl rfl ?_
                  refine get_X10_50 (pc := 209) C (wg hG (by decide) (by decide)) dX10_plans_209 ?_
                  refine V_iload_n (pc := 212) C 2 dX10_plans_212 rfl rfl ?_
                  refine V_iald (pc := 213) C (S) rfl hS (Nat.le_of_ble_eq_true rfl) (wg hG (by decide) (by decide)) wF_42 dX10_plans_213 ?_
                  refine V_icmp_ne (tgt := 252) (pc := 214) C dX10_plans_214 (by decide) (fun h_214 => ?_) (fun h_214 => ?_)
                  · rw [hc2.1, nI_eq (by omega) (by omega)] at h_214
                    have hsk := skip (by rw [hst2, if_neg (fun e => e.elim h_203 (fun y => h_214 y.1)), hc0]) []
                    refine Vs_iinc (v := nI (h + 1)) (lv' := [(0, _), (1, _), (2, _), (3, _), (4, _), (5, _), (6, _)]) (pc := 252) C 4 dX10_plans_252 rfl (by decide) rfl (nI_i1 (h)) rfl ?_
                    refine V_goto (tgt := 101) (pc := 255) C dX10_plans_255 (by decide) ?_
                    refine V_loc (lv' := [(0, _), (1, _), (2, _), (3, _), (4, _)]) [0, 1, 2, 3, 4] rfl ?_
                    first | exact hsk | (refine ih (h + 1) _ (by omega) (by omega) (((hF.tr (qF.arr _ (by decide))).tr (qF.arr _ (by decide))).tr (qF.arr _ (by decide))) (fun h' q1 q2 => ?_) (fun S' hS' => ?_) ?_ hQ; (rw [mset_at, if_neg (by omega), mset_at, if_neg (by omega), mset_at, if_neg (by omega)]; exact hR h' q1 q2); (simp only [mset_at]; rw [if_neg (by omega), if_neg (by omega), if_neg (by omega), if_neg (by omega), if_neg (by omega), if_neg (by omega), if_neg (by omega), if_neg (by omega), if_neg (by omega)]; exact hT S' hS'); (rw [htk]; simp only [mset_at]; exact ⟨by simp, by simp, fun _ => by simp⟩))
                  · rw [hc2.1, nI_eq (by omega) (by omega)] at h_214
                    refine V_iload (pc := 217) C 6 dX10_plans_217 rfl ?_
                    refine V_aload_n (pc := 219) C 0 dX10_plans_219 rfl rfl ?_
                    refine get_X10_53 (pc := 220) C (wg hG (by decide) (by decide)) dX10_plans_220 ?_
                    refine V_iload_n (pc := 223) C 2 dX10_plans_223 rfl rfl ?_
                    refine V_iald (pc := 224) C (S) rfl hS (Nat.le_of_ble_eq_true rfl) (wg hG (by decide) (by decide)) wF_43 dX10_plans_224 ?_
                    refine V_icmp_ge (tgt := 252) (pc := 225) C dX10_plans_225 (by decide) (fun h_225 => ?_) (fun h_225 => ?_)
                    · rw [hc2.2.1, nI_leI (by omega) (by omega)] at h_225
                      have hsk := skip (by rw [hst2, if_neg (fun e => e.elim h_203 (fun y => by omega)), hc0]) []
                      refine Vs_iinc (v := nI (h + 1)) (lv' := [(0, _), (1, _), (2, _), (3, _), (4, _), (5, _), (6, _)]) (pc := 252) C 4 dX10_plans_252 rfl (by decide) rfl (nI_i1 (h)) rfl ?_
                      refine V_goto (tgt := 101) (pc := 255) C dX10_plans_255 (by decide) ?_
                      refine V_loc (lv' := [(0, _), (1, _), (2, _), (3, _), (4, _)]) [0, 1, 2, 3, 4] rfl ?_
                      first | exact hsk | (refine ih (h + 1) _ (by omega) (by omega) (((hF.tr (qF.arr _ (by decide))).tr (qF.arr _ (by decide))).tr (qF.arr _ (by decide))) (fun h' q1 q2 => ?_) (fun S' hS' => ?_) ?_ hQ; (rw [mset_at, if_neg (by omega), mset_at, if_neg (by omega), mset_at, if_neg (by omega)]; exact hR h' q1 q2); (simp only [mset_at]; rw [if_neg (by omega), if_neg (by omega), if_neg (by omega), if_neg (by omega), if_neg (by omega), if_neg (by omega), if_neg (by omega), if_neg (by omega), if_neg (by omega)]; exact hT S' hS'); (rw [htk]; simp only [mset_at]; exact ⟨by simp, by simp, fun _ => by simp⟩))
                    · rw [hc2.2.1, nI_leI (by omega) (by omega)] at h_225
                      have htk : cF pr S (h + 1) = some (p0 + q0.1, 1 + q0.2.1, h) := by rw [hst2, if_pos (Or.inr ⟨h_214, by omega⟩)]
                      refine V_aload_n (pc := 228) C 0 dX10_plans_228 rfl rfl ?_
                      refine get_X10_50 (pc := 229) C (wg hG (by decide) (by decide)) dX10_plans_229 ?_
                      refine V_iload_n (pc := 232) C 2 dX10_plans_232 rfl rfl ?_
                      refine V_iload (pc := 233) C 5 dX10_plans_233 rfl ?_
                      refine V_iast (pc := 235) C (S) rfl hS (Nat.le_of_ble_eq_true rfl) (wg hG (by decide) (by decide)) (fun _ => wF_42) dX10_plans_235 ?_
                      refine V_aload_n (pc := 236) C 0 dX10_plans_236 rfl rfl ?_
                      refine get_X10_53 (pc := 237) C (wg hG (by decide) (by decide)) dX10_plans_237 ?_
                      refine V_iload_n (pc := 240) C 2 dX10_plans_240 rfl rfl ?_
                      refine V_iload (pc := 241) C 6 dX10_plans_241 rfl ?_
                      refine V_iast (pc := 243) C (S) rfl hS (Nat.le_of_ble_eq_true rfl) (wg hG (by decide) (by decide)) (fun _ => wF_43) dX10_plans_243 ?_
                      refine V_aload_n (pc := 244) C 0 dX10_plans_244 rfl rfl ?_
                      refine get_X10_56 (pc := 245) C (wg hG (by decide) (by decide)) dX10_plans_245 ?_
                      refine V_iload_n (pc := 248) C 2 dX10_plans_248 rfl rfl ?_
                      refine V_iload (pc := 249) C 4 dX10_plans_249 rfl ?_
                      refine V_iast (pc := 251) C (S) rfl hS (Nat.le_of_ble_eq_true rfl) (wg hG (by decide) (by decide)) (fun _ => wF_44) dX10_plans_251 ?_
                      refine Vs_iinc (v := nI (h + 1)) (lv' := [(0, _), (1, _), (2, _), (3, _), (4, _), (5, _), (6, _)]) (pc := 252) C 4 dX10_plans_252 rfl (by decide) rfl (nI_i1 (h)) rfl ?_
                      refine V_goto (tgt := 101) (pc := 255) C dX10_plans_255 (by decide) ?_
                      refine V_loc (lv' := [(0, _), (1, _), (2, _), (3, _), (4, _)]) [0, 1, 2, 3, 4] rfl ?_
                      first | exact hsk | (refine ih (h + 1) _ (by omega) (by omega) (((hF.tr (qF.arr _ (by decide))).tr (qF.arr _ (by decide))).tr (qF.arr _ (by decide))) (fun h' q1 q2 => ?_) (fun S' hS' => ?_) ?_ hQ; (rw [mset_at, if_neg (by omega), mset_at, if_neg (by omega), mset_at, if_neg (by omega)]; exact hR h' q1 q2); (simp only [mset_at]; rw [if_neg (by omega), if_neg (by omega), if_neg (by omega), if_neg (by omega), if_neg (by omega), if_neg (by omega), if_neg (by omega), if_neg (by omega), if_neg (by omega)]; exact hT S' hS'); (rw [htk]; simp only [mset_at]; exact ⟨by simp, by simp, fun _ => by simp⟩))
end S64
