def bStep (cst : Nat → Int32) (b c : Nat) (bar : Int32) : Int32 := if c = b then bar else if cst c < 0 then bar else (if (if b ≤ c then cst c else cst c - 1) < bar then (if b ≤ c then cst c else cst c - 1) else bar)
def barF (cst : Nat → Int32) (b : Nat) : Nat → Nat → Int32 → Int32
  | _, 0, bar => bar
  | c, n + 1, bar => barF cst b (c + 1) n (bStep cst b c bar)
/-- what a buyer earns by a fee, by the bars -/
noncomputable def eStep (M : wS) (r e1 e2 b : Nat) (fee : Int32) (bars : Nat → Int32) (t : Nat) (sum : Int32) : Int32 :=
  if M.1 29 0 t = nI b then sum else @ite _ (hasB (M.1 26 0 3) t) (Classical.propDecidable _) sum (sum + (if kCost (kAlone M t) r e1 e2 b fee 0 < 0 then 0 else if bars t < kCost (kAlone M t) r e1 e2 b fee 0 then 0 else pAsks (M.1 5 b 0) (M.1 5 b 2) fee))
noncomputable def eRunF (M : wS) (r e1 e2 b : Nat) (fee : Int32) (bars : Nat → Int32) : Nat → Nat → Int32 → Int32
  | _, 0, sum => sum
  | t, n + 1, sum => eRunF M r e1 e2 b fee bars (t + 1) n (eStep M r e1 e2 b fee bars t sum)
section S31
variable {l : Launch} {D : va_G} {cy : Nat → ClassId} {ad : Nat → Nat → Nat} {G d : Nat}
theorem lq_X1_setBars {p : Program} {e : Env} {s : State} {m : MethodId} {args : Array Value} {below : List Frame} {meth : Method} {c : Code} (C : CX p s m args c cX1_setBars 8 "CostsAge$Fees" D cy ad G (wA ad G) (Rm d) d 0 0) (hr : meth.sig.returnType = none) (hlk : meth.locks = false) (hG : 30 ≤ G) (hd : 1 ≤ d) (M : wS) {nb b t : Nat} (hn7 : nb ≤ 7) (hb : b < 7) (ht : t < 7) (nti : Int32) (Qf : wS → Prop) : ∀ (n cn : Nat) (bar : Int32), cn + n = nb → V p l e (Rm d) s m args below meth c 8 D cy ad G (wA ad G) 0 0 (MQ below (wQ D cy ad G (rV Qf)) args s 0 0 (wA ad G)) 76 [(0, .ref (ad 22 0)), (1, .int (nI b)), (2, .int (nI nb)), (3, .int nti), (4, .int (nI t)), (5, .int (barF (fun c2 => M.1 23 0 (7 * c2 + t)) b cn n bar)), (6, .int (nI nb))] [] M → V p l e (Rm d) s m args below meth c 8 D cy ad G (wA ad G) 0 0 (MQ below (wQ D cy ad G (rV Qf)) args s 0 0 (wA ad G)) 16 [(0, .ref (ad 22 0)), (1, .int (nI b)), (2, .int (nI nb)), (3, .int nti), (4, .int (nI t)), (5, .int bar), (6, .int (nI cn))] [] M := by
  intro n
  induction n with
  | zero =>
    intro cn bar hc hq
    obtain rfl : cn = nb := by omega
    refine V_iload (pc := 16) C 6 dX1_setBars_16 rfl ?_
    refine V_iload_n (pc := 18) C 2 dX1_setBars_18 rfl rfl ?_
    refine V_icmp_ge (tgt := 76) (pc := 19) C dX1_setBars_19 (by decide) (fun h_19 => ?_) (fun h_19 => ?_)
    · exact hq
    · exact absurd (nI_le (by omega) (by omega)) h_19
  | succ n ih =>
    intro cn bar hc hq
    have hq2 : V p l e (Rm d) s m args below meth c 8 D cy ad G (wA ad G) 0 0 (MQ below (wQ D cy ad G (rV Qf)) args s 0 0 (wA ad G)) 76 [(0, .ref (ad 22 0)), (1, .int (nI b)), (2, .int (nI nb)), (3, .int nti), (4, .int (nI t)), (5, .int (barF (fun c2 => M.1 23 0 (7 * c2 + t)) b (cn + 1) n (bStep (fun c2 => M.1 23 0 (7 * c2 + t)) b cn bar))), (6, .int (nI nb))] [] M := hq
    clear hq
    refine V_iload (pc := 16) C 6 dX1_setBars_16 rfl ?_
    refine V_iload_n (pc := 18) C 2 dX1_setBars_18 rfl rfl ?_
    refine V_icmp_ge (tgt := 76) (pc := 19) C dX1_setBars_19 (by decide) (fun h_19 => ?_) (fun h_19 => ?_)
    · exact absurd h_19 (nI_ge (by omega) (by omega))
    · refine V_aload_n (pc := 22) C 0 dX1_setBars_22 rfl rfl ?_
      refine get_X1_9 (pc := 23) C (wg hG (by decide) (by decide)) dX1_setBars_23 ?_
      refine V_iload (pc := 26) C 6 dX1_setBars_26 rfl ?_
      refine V_bipush (v := 7) (pc := 28) C dX1_setBars_28 (by decide) ?_
      refine V_imul (pc := 30) C dX1_setBars_30 ?_
      refine V_iload (pc := 31) C 4 dX1_setBars_31 rfl ?_
      refine V_iadd (pc := 33) C dX1_setBars_33 ?_
      refine V_iald (pc := 34) C (7 * cn + t) (mul7 cn t) (by omega) (Nat.le_of_ble_eq_true rfl) (wg hG (by decide) (by decide)) wF_23 dX1_setBars_34 ?_
      refine Vs_istore (lv' := [(0, _), (1, _), (2, _), (3, _), (4, _), (5, _), (6, _), (7, _)]) (pc := 35) C dX1_setBars_35 (by decide) rfl rfl ?_
      refine V_iload (pc := 37) C 6 dX1_setBars_37 rfl ?_
      refine V_iload_n (pc := 39) C 1 dX1_setBars_39 rfl rfl ?_
      refine V_icmp_eq (tgt := 70) (pc := 40) C dX1_setBars_40 (by decide) (fun h_40 => ?_) (fun h_40 => ?_)
      · rw [nI_eq (by omega) (by omega)] at h_40
        refine Vs_iinc (v := nI (cn + 1)) (lv' := [(0, _), (1, _), (2, _), (3, _), (4, _), (5, _), (6, _), (7, _)]) (pc := 70) C 6 dX1_setBars_70 rfl (by decide) rfl (nI_i1 (cn)) rfl ?_
        refine V_goto (tgt := 16) (pc := 73) C dX1_setBars_73 (by decide) ?_
        refine V_loc (lv' := [(0, _), (1, _), (2, _), (3, _), (4, _), (5, _), (6, _)]) [0, 1, 2, 3, 4, 5, 6] rfl ?_
        exact ih (cn + 1) _ (by omega) (by simpa only [bStep, if_pos h_40] using hq2)
      · rw [nI_eq (by omega) (by omega)] at h_40
        refine V_iload (pc := 43) C 7 dX1_setBars_43 rfl ?_
        refine V_if_lt (tgt := 70) (pc := 45) C dX1_setBars_45 (by decide) (fun h_45 => ?_) (fun h_45 => ?_)
        · refine Vs_iinc (v := nI (cn + 1)) (lv' := [(0, _), (1, _), (2, _), (3, _), (4, _), (5, _), (6, _), (7, _)]) (pc := 70) C 6 dX1_setBars_70 rfl (by decide) rfl (nI_i1 (cn)) rfl ?_
          refine V_goto (tgt := 16) (pc := 73) C dX1_setBars_73 (by decide) ?_
          refine V_loc (lv' := [(0, _), (1, _), (2, _), (3, _), (4, _), (5, _), (6, _)]) [0, 1, 2, 3, 4, 5, 6] rfl ?_
          exact ih (cn + 1) _ (by omega) (by simpa only [bStep, if_neg h_40, if_pos h_45] using hq2)
        · refine V_iload (pc := 48) C 5 dX1_setBars_48 rfl ?_
          refine V_iload (pc := 50) C 6 dX1_setBars_50 rfl ?_
          refine V_iload_n (pc := 52) C 1 dX1_setBars_52 rfl rfl ?_
          refine V_icmp_ge (tgt := 63) (pc := 53) C dX1_setBars_53 (by decide) (fun h_53 => ?_) (fun h_53 => ?_)
          · rw [nI_leI (by omega) (by omega)] at h_53
            refine V_iload (pc := 63) C 7 dX1_setBars_63 rfl ?_
            refine V_mmin (pc := 65) C qm_X1_22 q_mins qn_java_lang_Math q_minc (by omega) (Nat.le_of_ble_eq_true rfl) dX1_setBars_65 ?_
            refine Vs_istore (lv' := [(0, _), (1, _), (2, _), (3, _), (4, _), (5, _), (6, _), (7, _)]) (pc := 68) C dX1_setBars_68 (by decide) rfl rfl ?_
            refine Vs_iinc (v := nI (cn + 1)) (lv' := [(0, _), (1, _), (2, _), (3, _), (4, _), (5, _), (6, _), (7, _)]) (pc := 70) C 6 dX1_setBars_70 rfl (by decide) rfl (nI_i1 (cn)) rfl ?_
            refine V_goto (tgt := 16) (pc := 73) C dX1_setBars_73 (by decide) ?_
            refine V_loc (lv' := [(0, _), (1, _), (2, _), (3, _), (4, _), (5, _), (6, _)]) [0, 1, 2, 3, 4, 5, 6] rfl ?_
            exact ih (cn + 1) _ (by omega) (by simpa only [bStep, if_neg h_40, if_neg h_45, if_pos h_53] using hq2)
          · rw [nI_leI (by omega) (by omega)] at h_53
            refine V_iload (pc := 56) C 7 dX1_setBars_56 rfl ?_
            refine V_iconst (v := 1) (pc := 58) C dX1_setBars_58 (by decide) ?_
            refine V_isub (pc := 59) C dX1_setBars_59 ?_
            refine V_goto (tgt := 65) (pc := 60) C dX1_setBars_60 (by decide) ?_
            refine V_mmin (pc := 65) C qm_X1_22 q_mins qn_java_lang_Math q_minc (by omega) (Nat.le_of_ble_eq_true rfl) dX1_setBars_65 ?_
            refine Vs_istore (lv' := [(0, _), (1, _), (2, _), (3, _), (4, _), (5, _), (6, _), (7, _)]) (pc := 68) C dX1_setBars_68 (by decide) rfl rfl ?_
            refine Vs_iinc (v := nI (cn + 1)) (lv' := [(0, _), (1, _), (2, _), (3, _), (4, _), (5, _), (6, _), (7, _)]) (pc := 70) C 6 dX1_setBars_70 rfl (by decide) rfl (nI_i1 (cn)) rfl ?_
            refine V_goto (tgt := 16) (pc := 73) C dX1_setBars_73 (by decide) ?_
            refine V_loc (lv' := [(0, _), (1, _), (2, _), (3, _), (4, _), (5, _), (6, _)]) [0, 1, 2, 3, 4, 5, 6] rfl ?_
            exact ih (cn + 1) _ (by omega) (by simpa only [bStep, if_neg h_40, if_neg h_45, if_neg h_53] using hq2)
def kBar (M : wS) (nb b t : Nat) : Int32 := barF (fun c2 => M.1 23 0 (7 * c2 + t)) b 0 nb 1000000
theorem lp_X1_setBars {p : Program} {e : Env} {s : State} {m : MethodId} {args : Array Value} {below : List Frame} {meth : Method} {c : Code} (C : CX p s m args c cX1_setBars 8 "CostsAge$Fees" D cy ad G (wA ad G) (Rm d) d 0 0) (hr : meth.sig.returnType = none) (hlk : meth.locks = false) (hG : 30 ≤ G) (hd : 1 ≤ d) (M : wS) {nb nt b : Nat} (hn7 : nb ≤ 7) (ht7 : nt ≤ 7) (hb : b < 7) (Qf : wS → Prop) (hq : ∀ M', Fr [25] M M' → (∀ t, t < nt → M'.1 25 0 t = kBar M nb b t) → Qf M') : ∀ (n t : Nat) (M1 : wS), t + n = nt → Fr [25] M M1 → (∀ t', t' < t → M1.1 25 0 t' = kBar M nb b t') → V p l e (Rm d) s m args below meth c 8 D cy ad G (wA ad G) 0 0 (MQ below (wQ D cy ad G (rV Qf)) args s 0 0 (wA ad G)) 3 [(0, .ref (ad 22 0)), (1, .int (nI b)), (2, .int (nI nb)), (3, .int (nI nt)), (4, .int (nI t))] [] M1 := by
  intro n
  induction n with
  | zero =>
    intro t M1 ht hF hA
    obtain rfl : t = nt := by omega
    refine V_iload (pc := 3) C 4 dX1_setBars_3 rfl ?_
    refine V_iload_n (pc := 5) C 3 dX1_setBars_5 rfl rfl ?_
    refine V_icmp_ge (tgt := 91) (pc := 6) C dX1_setBars_6 (by decide) (fun h_6 => ?_) (fun h_6 => ?_)
    · refine V_vret (pc := 91) C hr hlk dX1_setBars_91 ⟨rfl, ?_⟩
      exact hq M1 hF hA
    · exact absurd (nI_le (by omega) (by omega)) h_6
  | succ n ih =>
    intro t M1 ht hF hA
    have hbar : barF (fun c2 => M1.1 23 0 (7 * c2 + t)) b 0 nb 1000000 = kBar M nb b t := by rw [hF.1 23 0 (by decide)]; rfl
    refine V_iload (pc := 3) C 4 dX1_setBars_3 rfl ?_
    refine V_iload_n (pc := 5) C 3 dX1_setBars_5 rfl rfl ?_
    refine V_icmp_ge (tgt := 91) (pc := 6) C dX1_setBars_6 (by decide) (fun h_6 => ?_) (fun h_6 => ?_)
    · exact absurd h_6 (nI_ge (by omega) (by omega))
    · refine V_ldc (pc := 9) C dX1_setBars_9 qk_X1_21 ?_
      refine Vs_istore (lv' := [(0, _), (1, _), (2, _), (3, _), (4, _), (5, _)]) (pc := 11) C dX1_setBars_11 (by decide) rfl rfl ?_
      refine V_iconst (v := 0) (pc := 13) C dX1_setBars_13 (by decide) ?_
      refine Vs_istore (lv' := [(0, _), (1, _), (2, _), (3, _), (4, _), (5, _), (6, _)]) (pc := 14) C dX1_setBars_14 (by decide) rfl rfl ?_
      refine lq_X1_setBars C hr hlk hG hd M1 hn7 hb (t := t) (by omega) _ _ nb 0 _ (by omega) ?_
      rw [hbar]
      refine V_aload_n (pc := 76) C 0 dX1_setBars_76 rfl rfl ?_
      refine get_X1_18 (pc := 77) C (wg hG (by decide) (by decide)) dX1_setBars_77 ?_
      refine V_iload (pc := 80) C 4 dX1_setBars_80 rfl ?_
      refine V_iload (pc := 82) C 5 dX1_setBars_82 rfl ?_
      refine V_iast (pc := 84) C (t) rfl (by omega) (Nat.le_of_ble_eq_true rfl) (wg hG (by decide) (by decide)) (fun _ => wF_25) dX1_setBars_84 ?_
      refine Vs_iinc (v := nI (t + 1)) (lv' := [(0, _), (1, _), (2, _), (3, _), (4, _), (5, _), (6, _)]) (pc := 85) C 4 dX1_setBars_85 rfl (by decide) rfl (nI_i1 (t)) rfl ?_
      refine V_goto (tgt := 3) (pc := 88) C dX1_setBars_88 (by decide) ?_
      refine V_loc (lv' := [(0, _), (1, _), (2, _), (3, _), (4, _)]) [0, 1, 2, 3, 4] rfl ?_
      refine ih (t + 1) _ (by omega) (hF.tr ⟨fun g i hg => ?_, rfl⟩) (fun t' h => ?_)
      · funext k
        rw [mset_at, if_neg (fun z => hg (by simp [z.1]))]
      · rw [mset_at]
        by_cases e9 : t' = t
        · rw [if_pos ⟨rfl, rfl, e9⟩, e9]
        · rw [if_neg (fun z => e9 z.2.2)]
          exact hA t' (by omega)
theorem c_X1_setBars (hG : 30 ≤ G) (hd : 1 ≤ d) (M : wS) {nb nt b : Nat} (hn7 : nb ≤ 7) (ht7 : nt ≤ 7) (hb : b < 7) : Ctr l D cy ad G d yX1_setBars cX1_setBars 8 none [.ref (ad 22 0), .int (nI b), .int (nI nb), .int (nI nt)] M (rV fun M' => Fr [25] M M' ∧ ∀ t, t < nt → M'.1 25 0 t = kBar M nb b t) := by
  refine Ctr.of (lv0 := [(0, _), (1, _), (2, _), (3, _)]) (by decide) (Nat.le_of_ble_eq_true rfl) rfl ?_
  intro p e s m args below meth c C hr hlk _
  have C : CX p s m args c cX1_setBars 8 "CostsAge$Fees" D cy ad G (wA ad G) (Rm d) d 0 0 := C
  refine V_iconst (v := 0) (pc := 0) C dX1_setBars_0 (by decide) ?_
  refine Vs_istore (lv' := [(0, _), (1, _), (2, _), (3, _), (4, _)]) (pc := 1) C dX1_setBars_1 (by decide) rfl rfl ?_
  exact lp_X1_setBars C hr hlk hG hd M hn7 ht7 hb _ (fun M' h1 h2 => ⟨h1, h2⟩) nt 0 M (by omega) Fr.rf (fun t' h => by omega)
theorem lp_X9_earnsBy {p : Program} {e : Env} {s : State} {m : MethodId} {args : Array Value} {below : List Frame} {meth : Method} {c : Code} (C : CX p s m args c cX9_earnsBy 7 "CostsAge" D cy ad G (wA ad G) (Rm d) d 0 0) (hr : meth.sig.returnType = (some .int)) (hlk : meth.locks = false) (hG : 30 ≤ G) (hd : 5 ≤ d) (M : wS) {nb nt r e1 e2 e3 b : Nat} (hP : IP M nb nt r e1 e2 e3) (hb : b < 7) (fee : Int32) (Qf : Int32 → wS → Prop) : ∀ (n t : Nat) (sum : Int32) (M1 : wS), t + n = nt → St M M1 → (∀ M', St M M' → Qf (eRunF M r e1 e2 b fee (M.1 25 0) t n sum) M') → V p l e (Rm d) s m args below meth c 7 D cy ad G (wA ad G) 0 0 (MQ below (wQ D cy ad G (rI Qf)) args s 0 0 (wA ad G)) 17 [(0, .ref (ad 0 0)), (1, .int (nI b)), (2, .int fee), (3, .int (pAsks (M.1 5 b 0) (M.1 5 b 2) fee)), (4, .int sum), (5, .int (nI t))] [] M1 := by
  obtain ⟨-, ⟨hnt, ht7⟩, -⟩ := id hP
  intro n
  induction n with
  | zero =>
    intro t sum M1 ht hS hq
    refine V_iload (pc := 17) C 5 dX9_earnsBy_17 rfl ?_
    refine V_aload_n (pc := 19) C 0 dX9_earnsBy_19 rfl rfl ?_
    refine get_X9_124 (pc := 20) C (wg hG (by decide) (by decide)) dX9_earnsBy_20 ?_
    refine V_icmp_ge (tgt := 94) (pc := 23) C dX9_earnsBy_23 (by decide) (fun h_23 => ?_) (fun h_23 => ?_)
    · refine V_iload (pc := 94) C 4 dX9_earnsBy_94 rfl ?_
      refine V_iret (pc := 96) C hr hlk dX9_earnsBy_96 ⟨_, rfl, ?_⟩
      exact hq M1 hS
    · rw [hS.1 0 0 (by decide) (by decide) (by decide), hnt] at h_23
      exact absurd (nI_le (by omega) (by omega)) h_23
  | succ n ih =>
    intro t sum M1 ht hS hq
    have hq2 : ∀ M', St M M' → Qf (eRunF M r e1 e2 b fee (M.1 25 0) (t + 1) n (eStep M r e1 e2 b fee (M.1 25 0) t sum)) M' := hq
    clear hq
    refine V_iload (pc := 17) C 5 dX9_earnsBy_17 rfl ?_
    refine V_aload_n (pc := 19) C 0 dX9_earnsBy_19 rfl rfl ?_
    refine get_X9_124 (pc := 20) C (wg hG (by decide) (by decide)) dX9_earnsBy_20 ?_
    refine V_icmp_ge (tgt := 94) (pc := 23) C dX9_earnsBy_23 (by decide) (fun h_23 => ?_) (fun h_23 => ?_)
    · rw [hS.1 0 0 (by decide) (by decide) (by decide), hnt] at h_23
      exact absurd h_23 (nI_ge (by omega) (by omega))
    · refine V_aload_n (pc := 26) C 0 dX9_earnsBy_26 rfl rfl ?_
      refine get_X9_64 (pc := 27) C (wg hG (by decide) (by decide)) dX9_earnsBy_27 ?_
      refine get_X9_133 (pc := 30) C (wg hG (by decide) (by decide)) dX9_earnsBy_30 ?_
      refine V_iload (pc := 33) C 5 dX9_earnsBy_33 rfl ?_
      refine V_iald (pc := 35) C (t) rfl (by omega) (Nat.le_of_ble_eq_true rfl) (wg hG (by decide) (by decide)) wF_29 dX9_earnsBy_35 ?_
      refine V_iload_n (pc := 36) C 1 dX9_earnsBy_36 rfl rfl ?_
      refine V_icmp_eq (tgt := 88) (pc := 37) C dX9_earnsBy_37 (by decide) (fun h_37 => ?_) (fun h_37 => ?_)
      · rw [hS.1 29 0 (by decide) (by decide) (by decide)] at h_37
        refine Vs_iinc (v := nI (t + 1)) (lv' := [(0, _), (1, _), (2, _), (3, _), (4, _), (5, _)]) (pc := 88) C 5 dX9_earnsBy_88 rfl (by decide) rfl (nI_i1 (t)) rfl ?_
        refine V_goto (tgt := 17) (pc := 91) C dX9_earnsBy_91 (by decide) ?_
        exact ih (t + 1) _ _ (by omega) hS (by simpa only [eStep, if_pos h_37] using hq2)
      · rw [hS.1 29 0 (by decide) (by decide) (by decide)] at h_37
        refine V_aload_n (pc := 40) C 0 dX9_earnsBy_40 rfl rfl ?_
        refine V_iload (pc := 41) C 5 dX9_earnsBy_41 rfl ?_
        refine call_X9_192 (pc := 43) C (c2_X9_showAlone (d := d - 1) hG (by omega) M1 (t := t) (by omega)) (by omega) (wg hG (by decide) (by decide)) (Nat.le_of_ble_eq_true rfl) dX9_earnsBy_43 (fun x_43 M_43 h_43 => ?_)
        obtain ⟨rfl, h_t1, h_t0⟩ := h_43
        refine V_if_eq (tgt := 88) (pc := 46) C dX9_earnsBy_46 (by decide) (fun h_46 => ?_) (fun h_46 => ?_)
        · have h_46 := bJ_0.mp h_46
          have h_b := Classical.not_not.mp h_46
          have e9 := (h_t0 h_b).symm
          subst e9
          rw [hS.1 26 0 (by decide) (by decide) (by decide)] at h_b
          refine Vs_iinc (v := nI (t + 1)) (lv' := [(0, _), (1, _), (2, _), (3, _), (4, _), (5, _)]) (pc := 88) C 5 dX9_earnsBy_88 rfl (by decide) rfl (nI_i1 (t)) rfl ?_
          refine V_goto (tgt := 17) (pc := 91) C dX9_earnsBy_91 (by decide) ?_
          exact ih (t + 1) _ _ (by omega) hS (by simpa only [eStep, if_neg h_37, if_pos h_b] using hq2)
        · have h_46 := bJ_1.mp h_46
          have e9 := h_t1 h_46
          subst e9
          rw [hS.1 26 0 (by decide) (by decide) (by decide)] at h_46
          have hS2 : St M (kAlone M1 t) := hS.tr (kShow_st _ _ _ _)
          have hP2 := hP.scr hS2.scr
          refine V_aload_n (pc := 49) C 0 dX9_earnsBy_49 rfl rfl ?_
          refine V_iload_n (pc := 50) C 1 dX9_earnsBy_50 rfl rfl ?_
          refine V_iload_n (pc := 51) C 2 dX9_earnsBy_51 rfl rfl ?_
          refine V_iconst (v := 0) (pc := 52) C dX9_earnsBy_52 (by decide) ?_
          refine call_X9_183 (pc := 53) C (c2_X9_costBy (d := d - 1) hG (by omega) (kAlone M1 t) hP2.2.2.1 hP2.2.2.2.1 hP2.2.2.2.2 (k := b) hb fee 0 (by decide)) (by omega) (wg hG (by decide) (by decide)) (Nat.le_of_ble_eq_true rfl) dX9_earnsBy_53 (fun x_53 M_53 h_53 => ?_)
          obtain ⟨hS1, rfl⟩ := h_53
          rw [kCost_alone hS.scr]
          have hS3 := hS2.tr hS1.st
          rw [eStep, if_neg h_37, if_neg h_46] at hq2
          generalize kCost (kAlone M t) r e1 e2 b fee 0 = v at hq2 ⊢
          refine Vs_istore (lv' := [(0, _), (1, _), (2, _), (3, _), (4, _), (5, _), (6, _)]) (pc := 56) C dX9_earnsBy_56 (by decide) rfl rfl ?_
          refine V_iload (pc := 58) C 4 dX9_earnsBy_58 rfl ?_
          refine V_iload (pc := 60) C 6 dX9_earnsBy_60 rfl ?_
          refine V_if_lt (tgt := 84) (pc := 62) C dX9_earnsBy_62 (by decide) (fun h_62 => ?_) (fun h_62 => ?_)
          · refine V_iconst (v := 0) (pc := 84) C dX9_earnsBy_84 (by decide) ?_
            refine V_iadd (pc := 85) C dX9_earnsBy_85 ?_
            refine Vs_istore (lv' := [(0, _), (1, _), (2, _), (3, _), (4, _), (5, _), (6, _)]) (pc := 86) C dX9_earnsBy_86 (by decide) rfl rfl ?_
            refine Vs_iinc (v := nI (t + 1)) (lv' := [(0, _), (1, _), (2, _), (3, _), (4, _), (5, _), (6, _)]) (pc := 88) C 5 dX9_earnsBy_88 rfl (by decide) rfl (nI_i1 (t)) rfl ?_
            refine V_goto (tgt := 17) (pc := 91) C dX9_earnsBy_91 (by decide) ?_
            refine V_loc (lv' := [(0, _), (1, _), (2, _), (3, _), (4, _), (5, _)]) [0, 1, 2, 3, 4, 5] rfl ?_
            exact ih (t + 1) _ _ (by omega) hS3 (by simpa only [if_pos h_62] using hq2)
          · refine V_iload (pc := 65) C 6 dX9_earnsBy_65 rfl ?_
            refine V_aload_n (pc := 67) C 0 dX9_earnsBy_67 rfl rfl ?_
            refine get_X9_57 (pc := 68) C (wg hG (by decide) (by decide)) dX9_earnsBy_68 ?_
            refine get_X9_309 (pc := 71) C (wg hG (by decide) (by decide)) dX9_earnsBy_71 ?_
            refine V_iload (pc := 74) C 5 dX9_earnsBy_74 rfl ?_
            refine V_iald (pc := 76) C (t) rfl (by omega) (Nat.le_of_ble_eq_true rfl) (wg hG (by decide) (by decide)) wF_25 dX9_earnsBy_76 ?_
            refine V_icmp_gt (tgt := 84) (pc := 77) C dX9_earnsBy_77 (by decide) (fun h_77 => ?_) (fun h_77 => ?_)
            · rw [hS3.1 25 0 (by decide) (by decide) (by decide)] at h_77
              refine V_iconst (v := 0) (pc := 84) C dX9_earnsBy_84 (by decide) ?_
              refine V_iadd (pc := 85) C dX9_earnsBy_85 ?_
              refine Vs_istore (lv' := [(0, _), (1, _), (2, _), (3, _), (4, _), (5, _), (6, _)]) (pc := 86) C dX9_earnsBy_86 (by decide) rfl rfl ?_
              refine Vs_iinc (v := nI (t + 1)) (lv' := [(0, _), (1, _), (2, _), (3, _), (4, _), (5, _), (6, _)]) (pc := 88) C 5 dX9_earnsBy_88 rfl (by decide) rfl (nI_i1 (t)) rfl ?_
              refine V_goto (tgt := 17) (pc := 91) C dX9_earnsBy_91 (by decide) ?_
              refine V_loc (lv' := [(0, _), (1, _), (2, _), (3, _), (4, _), (5, _)]) [0, 1, 2, 3, 4, 5] rfl ?_
              exact ih (t + 1) _ _ (by omega) hS3 (by simpa only [if_neg h_62, if_pos h_77] using hq2)
            · rw [hS3.1 25 0 (by decide) (by decide) (by decide)] at h_77
              refine V_iload_n (pc := 80) C 3 dX9_earnsBy_80 rfl rfl ?_
              refine V_goto (tgt := 85) (pc := 81) C dX9_earnsBy_81 (by decide) ?_
              refine V_iadd (pc := 85) C dX9_earnsBy_85 ?_
              refine Vs_istore (lv' := [(0, _), (1, _), (2, _), (3, _), (4, _), (5, _), (6, _)]) (pc := 86) C dX9_earnsBy_86 (by decide) rfl rfl ?_
              refine Vs_iinc (v := nI (t + 1)) (lv' := [(0, _), (1, _), (2, _), (3, _), (4, _), (5, _), (6, _)]) (pc := 88) C 5 dX9_earnsBy_88 rfl (by decide) rfl (nI_i1 (t)) rfl ?_
              refine V_goto (tgt := 17) (pc := 91) C dX9_earnsBy_91 (by decide) ?_
              refine V_loc (lv' := [(0, _), (1, _), (2, _), (3, _), (4, _), (5, _)]) [0, 1, 2, 3, 4, 5] rfl ?_
              exact ih (t + 1) _ _ (by omega) hS3 (by simpa only [if_neg h_62, if_neg h_77] using hq2)
theorem c_X9_earnsBy (hG : 30 ≤ G) (hd : 5 ≤ d) (M : wS) {nb nt r e1 e2 e3 b : Nat} (hP : IP M nb nt r e1 e2 e3) (hb : b < 7) (fee : Int32) : Ctr l D cy ad G d yX9_earnsBy cX9_earnsBy 7 (some .int) [.ref (ad 0 0), .int (nI b), .int fee] M (rI fun x M' => St M M' ∧ x = eRunF M r e1 e2 b fee (M.1 25 0) 0 nt 0) := by
  refine Ctr.of (lv0 := [(0, _), (1, _), (2, _)]) (by decide) (Nat.le_of_ble_eq_true rfl) rfl ?_
  intro p e s m args below meth c C hr hlk _
  have C : CX p s m args c cX9_earnsBy 7 "CostsAge" D cy ad G (wA ad G) (Rm d) d 0 0 := C
  refine V_aload_n (pc := 0) C 0 dX9_earnsBy_0 rfl rfl ?_
  refine get_X9_11 (pc := 1) C (wg hG (by decide) (by decide)) dX9_earnsBy_1 ?_
  refine V_iload_n (pc := 4) C 1 dX9_earnsBy_4 rfl rfl ?_
  refine V_aald (pc := 5) C (b) rfl hb (Nat.le_of_ble_eq_true rfl) (wg hG (by decide) (by decide)) wF_1 rfl dX9_earnsBy_5 ?_
  refine V_iload_n (pc := 6) C 2 dX9_earnsBy_6 rfl rfl ?_
  refine call_X9_166 (pc := 7) C (c_X0_asksBy (d := d - 1) hG M hb fee) (by omega) (wg hG (by decide) (show (b) < 7 from hb)) (Nat.le_of_ble_eq_true rfl) dX9_earnsBy_7 (fun x_7 M_7 h_7 => ?_)
  obtain ⟨e_7, rfl⟩ := h_7
  have e_7 := e_7.symm
  subst e_7
  refine Vs_istore_n (lv' := [(0, _), (1, _), (2, _), (3, _)]) (pc := 10) C dX9_earnsBy_10 rfl (by decide) rfl rfl ?_
  refine V_iconst (v := 0) (pc := 11) C dX9_earnsBy_11 (by decide) ?_
  refine Vs_istore (lv' := [(0, _), (1, _), (2, _), (3, _), (4, _)]) (pc := 12) C dX9_earnsBy_12 (by decide) rfl rfl ?_
  refine V_iconst (v := 0) (pc := 14) C dX9_earnsBy_14 (by decide) ?_
  refine Vs_istore (lv' := [(0, _), (1, _), (2, _), (3, _), (4, _), (5, _)]) (pc := 15) C dX9_earnsBy_15 (by decide) rfl rfl ?_
  exact lp_X9_earnsBy C hr hlk hG hd M hP hb fee _ nt 0 0 M (by omega) St.rf (fun M' h => ⟨h, rfl⟩)
end S31
