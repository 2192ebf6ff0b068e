theorem plTab_lt {pr : Nat → Option Nat} {S n : Nat} (h : S < n) : plTab pr n S = plTab pr (S + 1) S := by
  obtain ⟨k, rfl⟩ : ∃ k, n = S + 1 + k := ⟨n - S - 1, by omega⟩
  exact plTab_le k
/-- the chain of the heaps of a set -/
noncomputable def hoF (T : Nat → Option (Nat × Nat × Nat)) (t : Nat) : Nat → Nat → Int32
  | 0, _ => -1
  | n + 1, S => if S = 0 then -1 else match T S with
    | none => -1
    | some q => @ite _ (hasB (nI q.2.2) t) (Classical.propDecidable _) (nI q.2.2) (hoF T t n (S ^^^ q.2.2))
def plF (T : Nat → Option (Nat × Nat × Nat)) (S : Nat) (o : Option (Nat × Nat × Nat)) : Prop := ∀ q, o = some q → q.2.2 ∈ hsL S ∧ ∃ q', T (S ^^^ q.2.2) = some q'
theorem plF_fold {pr : Nat → Option Nat} {T : Nat → Option (Nat × Nat × Nat)} {S : Nat} : ∀ (L : List Nat) (cur : Option (Nat × Nat × Nat)), (∀ h ∈ L, h ∈ hsL S) → plF T S cur → plF T S (L.foldl (fun cur h => plTry pr T S h cur) cur) := by
  intro L
  induction L with
  | nil => intro cur _ hc; exact hc
  | cons h L ih =>
    intro cur hL hc
    refine ih _ (fun x hx => hL x (List.mem_cons_of_mem _ hx)) ?_
    show plF T S (plTry pr T S h cur)
    unfold plTry
    cases hp : pr h with
    | none => exact hc
    | some p =>
      cases ht : T (S ^^^ h) with
      | none => exact hc
      | some q =>
        have key : plF T S (some (p + q.1, 1 + q.2.1, h)) := by
          intro z hz
          cases hz
          exact ⟨hL h List.mem_cons_self, q, ht⟩
        show plF T S (plBetter cur (p + q.1) (1 + q.2.1) h)
        cases cur with
        | none => exact key
        | some w =>
          unfold plBetter
          simp only []
          split
          · exact key
          · exact hc
theorem plTab_F {pr : Nat → Option Nat} {S : Nat} (hS : S < 128) (h0 : 0 < S) : plF (plTab pr 128) S (plTab pr 128 S) := by
  have e : plTab pr 128 S = plCell pr (plTab pr S) S := by
    rw [show (128 : Nat) = S + 1 + (127 - S) by omega, plTab_le]
    show (if S = S then (if S = 0 then some (0, 0, 0) else plCell pr (plTab pr S) S) else plTab pr S S) = _
    rw [if_pos rfl, if_neg (by omega)]
  have h := plF_fold (pr := pr) (T := plTab pr S) (S := S) (hsL S) none (fun _ z => z) (fun q hq => by cases hq)
  intro q hq
  rw [e] at hq
  obtain ⟨a1, q', a2⟩ := h q hq
  obtain ⟨g1, g2, g3⟩ := hsL_mem.mp a1
  obtain ⟨f1, f2, f3⟩ := hs_facts S hS q.2.2 (by omega) g2 g3
  refine ⟨a1, q', ?_⟩
  rw [plTab_lt (by omega)]
  rw [plTab_lt (by omega)] at a2
  exact a2
section S26
variable {l : Launch} {D : va_G} {cy : Nat → ClassId} {ad : Nat → Nat → Nat} {G d : Nat}
def IZ (M : wS) : Prop := M.1 18 0 0 = 0 ∧ M.1 19 0 0 = 0 ∧ M.1 20 0 0 = 0
theorem c_X9_planAll (hG : 30 ≤ G) (hd : 6 ≤ d) (M : wS) {nb nt r e1 e2 e3 O : Nat} (hP : IP M nb nt r e1 e2 e3) (hU : kUnb M = nI O) (hO : O < 128) (hZ : IZ M) : Ctr l D cy ad G d yX9_planAll cX9_planAll 3 none [.ref (ad 0 0)] M (rV fun M' => Scr M M' ∧ ∀ S', S' &&& O = S' → S' ≤ O → eT (plTab (kPr M O nb nt r e1 e2) 128 S') (M'.1 18 0 S') (M'.1 19 0 S') (M'.1 20 0 S')) := by
  refine Ctr.of (lv0 := [(0, _)]) (by decide) (Nat.le_of_ble_eq_true rfl) rfl ?_
  intro p e s m args below meth c C hr hlk _
  have C : CX p s m args c cX9_planAll 3 "CostsAge" D cy ad G (wA ad G) (Rm d) d 0 0 := C
  refine V_aload_n (pc := 0) C 0 dX9_planAll_0 rfl rfl ?_
  refine call_X9_216 (pc := 1) C (c_X9_unbought (d := d - 1) hG M) (by omega) (wg hG (by decide) (by decide)) (Nat.le_of_ble_eq_true rfl) dX9_planAll_1 (fun x_1 M_1 h_1 => ?_)
  obtain ⟨e_1, rfl⟩ := h_1
  have e_1 := e_1.symm
  subst e_1
  rw [show (1 <<< (M.1 0 0 12 &&& 31) - 1) &&& (M.1 26 0 3 ^^^ -1) = nI O from hU]
  refine Vs_istore_n (lv' := [(0, _), (1, _)]) (pc := 4) C dX9_planAll_4 rfl (by decide) rfl rfl ?_
  refine V_iconst (v := 1) (pc := 5) C dX9_planAll_5 (by decide) ?_
  refine Vs_istore_n (lv' := [(0, _), (1, _), (2, _)]) (pc := 6) C dX9_planAll_6 rfl (by decide) rfl rfl ?_
  refine lp_X9_planAll C hr hlk hG hd M hP hO _ (fun M' h1 h2 => ⟨h1, h2⟩) O 1 M (by omega) (by decide) Scr.rf (fun h q1 q2 q3 => by omega) (fun S' q1 q2 => ?_)
  obtain rfl : S' = 0 := by omega
  rw [show (128 : Nat) = 0 + 1 + 127 by decide, plTab_le, hZ.1, hZ.2.1, hZ.2.2]
  exact ⟨by decide, by decide, by decide⟩
theorem lp_X2_heapOf {p : Program} {e : Env} {s : State} {m : MethodId} {args : Array Value} {below : List Frame} {meth : Method} {c : Code} (C : CX p s m args c cX2_heapOf 5 "CostsAge$Plan" D cy ad G (wA ad G) (Rm d) d 0 0) (hr : meth.sig.returnType = (some .int)) (hlk : meth.locks = false) (hG : 30 ≤ G) (hd : 1 ≤ d) (M : wS) {pr : Nat → Option Nat} (hpr : ∀ h p, pr h = some p → p ≤ 2000) {O t : Nat} (hO : O < 128) (hT : ∀ S', S' &&& O = S' → S' ≤ O → eT (plTab pr 128 S') (M.1 18 0 S') (M.1 19 0 S') (M.1 20 0 S')) (op : Int32) (Qf : Int32 → wS → Prop) : ∀ (n i S : Nat), i + n = 7 → S &&& O = S → S ≤ O → (∃ q, plTab pr 128 S = some q) → Qf (hoF (plTab pr 128) t n S) M → V p l e (Rm d) s m args below meth c 5 D cy ad G (wA ad G) 0 0 (MQ below (wQ D cy ad G (rI Qf)) args s 0 0 (wA ad G)) 16 [(0, .ref (ad 16 0)), (1, .int (nI t)), (2, .int op), (3, .int (nI S)), (4, .int (nI i))] [] M := by
  intro n
  induction n with
  | zero =>
    intro i S hi hs hle hq hx
    have hi2 : nI 7 ≤ nI i := nI_le (by omega) (by omega)
    refine V_iload (pc := 16) C 4 dX2_heapOf_16 rfl ?_
    refine V_bipush (v := 7) (pc := 18) C dX2_heapOf_18 (by decide) ?_
    refine V_icmp_ge (tgt := 62) (pc := 20) C dX2_heapOf_20 (by decide) (fun h_20 => ?_) (fun h_20 => ?_)
    · refine V_iconst (v := -1) (pc := 62) C dX2_heapOf_62 (by decide) ?_
      refine V_iret (pc := 63) C hr hlk dX2_heapOf_63 ⟨_, rfl, ?_⟩
      exact hx
    · exact absurd hi2 h_20
  | succ n ih =>
    intro i S hi hs hle hq hx
    obtain ⟨q, hq⟩ := hq
    have hi2 : ¬ nI 7 ≤ nI i := nI_ge (by omega) (by omega)
    have hx2 : Qf (if S = 0 then -1 else @ite _ (hasB (nI q.2.2) t) (Classical.propDecidable _) (nI q.2.2) (hoF (plTab pr 128) t n (S ^^^ q.2.2))) M := by
      have h9 := hx
      unfold hoF at h9
      rw [hq] at h9
      exact h9
    have hf : M.1 20 0 S = nI q.2.2 := by
      have := hT S hs hle
      rw [hq] at this
      exact this.2.2
    refine V_iload (pc := 16) C 4 dX2_heapOf_16 rfl ?_
    refine V_bipush (v := 7) (pc := 18) C dX2_heapOf_18 (by decide) ?_
    refine V_icmp_ge (tgt := 62) (pc := 20) C dX2_heapOf_20 (by decide) (fun h_20 => ?_) (fun h_20 => ?_)
    · exact absurd h_20 hi2
    · refine V_iload_n (pc := 23) C 3 dX2_heapOf_23 rfl rfl ?_
      refine V_if_eq (tgt := 62) (pc := 24) C dX2_heapOf_24 (by decide) (fun h_24 => ?_) (fun h_24 => ?_)
      · have hz : S = 0 := (nI_eq (by omega) (by decide)).mp (h_24.trans (by decide : (0 : Int32) = nI 0))
        refine V_iconst (v := -1) (pc := 62) C dX2_heapOf_62 (by decide) ?_
        refine V_iret (pc := 63) C hr hlk dX2_heapOf_63 ⟨_, rfl, ?_⟩
        rw [if_pos hz] at hx2
        exact hx2
      · have hz : ¬ S = 0 := fun z => h_24 (by rw [z]; decide)
        obtain ⟨a1, a2⟩ := plTab_F (pr := pr) (S := S) (by omega) (by omega) q hq
        obtain ⟨g1, g2, g3⟩ := hsL_mem.mp a1
        obtain ⟨f1, f2, f3⟩ := hs_facts S (by omega) q.2.2 (by omega) g2 g3
        rw [if_neg hz] at hx2
        refine V_aload_n (pc := 27) C 0 dX2_heapOf_27 rfl rfl ?_
        refine get_X2_21 (pc := 28) C (wg hG (by decide) (by decide)) dX2_heapOf_28 ?_
        refine V_iload_n (pc := 31) C 3 dX2_heapOf_31 rfl rfl ?_
        refine V_iald (pc := 32) C (S) rfl (by omega) (Nat.le_of_ble_eq_true rfl) (wg hG (by decide) (by decide)) wF_20 dX2_heapOf_32 ?_
        rw [hf]
        refine V_iload_n (pc := 33) C 1 dX2_heapOf_33 rfl rfl ?_
        refine call_X2_37 (pc := 34) C (c_X9_has (d := d - 1) M _ _) (by omega) (Nat.le_of_ble_eq_true rfl) dX2_heapOf_34 (fun x_34 M_34 h_34 => ?_)
        obtain ⟨e_34, rfl⟩ := h_34
        have e_34 := e_34.symm
        subst e_34
        refine V_if_eq (tgt := 47) (pc := 37) C dX2_heapOf_37 (by decide) (fun h_37 => ?_) (fun h_37 => ?_)
        · have h_37 := bJ_0.mp h_37
          refine V_iload_n (pc := 47) C 3 dX2_heapOf_47 rfl rfl ?_
          refine V_aload_n (pc := 48) C 0 dX2_heapOf_48 rfl rfl ?_
          refine get_X2_21 (pc := 49) C (wg hG (by decide) (by decide)) dX2_heapOf_49 ?_
          refine V_iload_n (pc := 52) C 3 dX2_heapOf_52 rfl rfl ?_
          refine V_iald (pc := 53) C (S) rfl (by omega) (Nat.le_of_ble_eq_true rfl) (wg hG (by decide) (by decide)) wF_20 dX2_heapOf_53 ?_
          refine V_ixor (pc := 54) C dX2_heapOf_54 ?_
          rw [hf, xor_i S (by omega) q.2.2 (by omega)]
          refine Vs_istore_n (lv' := [(0, _), (1, _), (2, _), (3, _), (4, _)]) (pc := 55) C dX2_heapOf_55 rfl (by decide) rfl rfl ?_
          refine Vs_iinc (v := nI (i + 1)) (lv' := [(0, _), (1, _), (2, _), (3, _), (4, _)]) (pc := 56) C 4 dX2_heapOf_56 rfl (by decide) rfl (nI_i1 (i)) rfl ?_
          refine V_goto (tgt := 16) (pc := 59) C dX2_heapOf_59 (by decide) ?_
          rw [if_neg (show ¬ hasB (nI q.2.2) t from h_37)] at hx2
          exact ih (i + 1) (S ^^^ q.2.2) (by omega) (sub_sub f3 hs) (by omega) a2 hx2
        · have h_37 := bJ_1.mp h_37
          refine V_aload_n (pc := 40) C 0 dX2_heapOf_40 rfl rfl ?_
          refine get_X2_21 (pc := 41) C (wg hG (by decide) (by decide)) dX2_heapOf_41 ?_
          refine V_iload_n (pc := 44) C 3 dX2_heapOf_44 rfl rfl ?_
          refine V_iald (pc := 45) C (S) rfl (by omega) (Nat.le_of_ble_eq_true rfl) (wg hG (by decide) (by decide)) wF_20 dX2_heapOf_45 ?_
          refine V_iret (pc := 46) C hr hlk dX2_heapOf_46 ⟨_, rfl, ?_⟩
          rw [hf]
          rw [if_pos (show hasB (nI q.2.2) t from h_37)] at hx2
          exact hx2
theorem c_X2_heapOf (hG : 30 ≤ G) (hd : 1 ≤ d) (M : wS) {pr : Nat → Option Nat} (hpr : ∀ h p, pr h = some p → p ≤ 2000) {O t : Nat} (hO : O < 128) (hT : ∀ S', S' &&& O = S' → S' ≤ O → eT (plTab pr 128 S') (M.1 18 0 S') (M.1 19 0 S') (M.1 20 0 S')) : Ctr l D cy ad G d yX2_heapOf cX2_heapOf 5 (some .int) [.ref (ad 16 0), .int (nI t), .int (nI O)] M (rI fun x M' => M' = M ∧ ((plTab pr 128 O = none → x = -1) ∧ ((∃ q, plTab pr 128 O = some q) → x = hoF (plTab pr 128) t 7 O))) := by
  have hOO : O &&& O = O := Nat.and_self O
  have hT0 := hT O hOO (Nat.le_refl _)
  refine Ctr.of (lv0 := [(0, _), (1, _), (2, _)]) (by decide) (Nat.le_of_ble_eq_true rfl) rfl ?_
  intro p e s m args below meth c C hr hlk _
  have C : CX p s m args c cX2_heapOf 5 "CostsAge$Plan" D cy ad G (wA ad G) (Rm d) d 0 0 := C
  refine V_iload_n (pc := 0) C 2 dX2_heapOf_0 rfl rfl ?_
  refine Vs_istore_n (lv' := [(0, _), (1, _), (2, _), (3, _)]) (pc := 1) C dX2_heapOf_1 rfl (by decide) rfl rfl ?_
  refine V_aload_n (pc := 2) C 0 dX2_heapOf_2 rfl rfl ?_
  refine get_X2_15 (pc := 3) C (wg hG (by decide) (by decide)) dX2_heapOf_3 ?_
  refine V_iload_n (pc := 6) C 3 dX2_heapOf_6 rfl rfl ?_
  refine V_iald (pc := 7) C (O) rfl hO (Nat.le_of_ble_eq_true rfl) (wg hG (by decide) (by decide)) wF_18 dX2_heapOf_7 ?_
  refine V_if_ge (tgt := 13) (pc := 8) C dX2_heapOf_8 (by decide) (fun h_8 => ?_) (fun h_8 => ?_)
  · refine V_iconst (v := 0) (pc := 13) C dX2_heapOf_13 (by decide) ?_
    refine Vs_istore (lv' := [(0, _), (1, _), (2, _), (3, _), (4, _)]) (pc := 14) C dX2_heapOf_14 (by decide) rfl rfl ?_
    have hz : ∃ q, plTab pr 128 O = some q := by
      cases hq : plTab pr 128 O with
      | none => rw [hq] at hT0; exact absurd hT0 (Int32.not_lt.mpr h_8)
      | some q => exact ⟨q, rfl⟩
    exact lp_X2_heapOf C hr hlk hG hd M hpr hO hT _ _ 7 0 O rfl hOO (Nat.le_refl _) hz ⟨rfl, fun z => (by obtain ⟨q, hq⟩ := hz; rw [hq] at z; cases z), fun _ => rfl⟩
  · refine V_iconst (v := -1) (pc := 11) C dX2_heapOf_11 (by decide) ?_
    refine V_iret (pc := 12) C hr hlk dX2_heapOf_12 ⟨_, rfl, ?_⟩
    refine ⟨rfl, fun _ => rfl, fun z => ?_⟩
    obtain ⟨q, hq⟩ := z
    rw [hq] at hT0
    exact absurd (by rw [hT0.1]; exact nI_pos' (by have := plTab_B hpr 128 (Nat.le_refl _) O q hq; omega)) h_8
theorem c_X9_all (hG : 30 ≤ G) (hd : 7 ≤ d) (M : wS) {nb nt r e1 e2 e3 O : Nat} (hP : IP M nb nt r e1 e2 e3) (hU : kUnb M = nI O) (hO : O < 128) (hZ : IZ M) (what : Int32) : Ctr l D cy ad G d yX9_all cX9_all 3 (some .int) [.ref (ad 0 0), .int what] M (rI fun x M' => Scr M M' ∧ ((0 ≤ what ∧ what ≤ 1) → x = match plTab (kPr M O nb nt r e1 e2) 128 O with | none => -1 | some q => if what = 0 then nI q.1 else nI q.2.1) ∧ (¬ (0 ≤ what ∧ what ≤ 1) → x = -2)) := by
  have hOO : O &&& O = O := Nat.and_self O
  refine Ctr.of (lv0 := [(0, _), (1, _)]) (by decide) (Nat.le_of_ble_eq_true rfl) rfl ?_
  intro p e s m args below meth c C hr hlk _
  have C : CX p s m args c cX9_all 3 "CostsAge" D cy ad G (wA ad G) (Rm d) d 0 0 := C
  refine V_iload_n (pc := 0) C 1 dX9_all_0 rfl rfl ?_
  refine V_iconst (v := 1) (pc := 1) C dX9_all_1 (by decide) ?_
  refine call_X9_102 (pc := 2) C (c_X9_isWithin (d := d - 1) M _ _) (by omega) (Nat.le_of_ble_eq_true rfl) dX9_all_2 (fun x_2 M_2 h_2 => ?_)
  obtain ⟨e_2, rfl⟩ := h_2
  have e_2 := e_2.symm
  subst e_2
  refine V_if_ne (tgt := 11) (pc := 5) C dX9_all_5 (by decide) (fun h_5 => ?_) (fun h_5 => ?_)
  · have h_5 := bJ_1.mp h_5
    refine V_aload_n (pc := 11) C 0 dX9_all_11 rfl rfl ?_
    refine call_X9_243 (pc := 12) C (c_X9_planAll (d := d - 1) hG (by omega) M hP hU hO hZ) (by omega) (wg hG (by decide) (by decide)) (Nat.le_of_ble_eq_true rfl) dX9_all_12 (fun M_12 h_12 => ?_)
    obtain ⟨hS, hT⟩ := h_12
    have hT0 := hT O hOO (Nat.le_refl _)
    have hU2 : (1 <<< (M_12.1 0 0 12 &&& 31) - 1) &&& (M_12.1 26 0 3 ^^^ -1) = nI O := by rw [hS.1 0 0 (by decide), hS.1 26 0 (by decide)]; exact hU
    refine V_aload_n (pc := 15) C 0 dX9_all_15 rfl rfl ?_
    refine call_X9_216 (pc := 16) C (c_X9_unbought (d := d - 1) hG M_12) (by omega) (wg hG (by decide) (by decide)) (Nat.le_of_ble_eq_true rfl) dX9_all_16 (fun x_16 M_16 h_16 => ?_)
    obtain ⟨e_16, rfl⟩ := h_16
    have e_16 := e_16.symm
    subst e_16
    rw [hU2]
    refine Vs_istore_n (lv' := [(0, _), (1, _), (2, _)]) (pc := 19) C dX9_all_19 rfl (by decide) rfl rfl ?_
    refine V_aload_n (pc := 20) C 0 dX9_all_20 rfl rfl ?_
    refine get_X9_50 (pc := 21) C (wg hG (by decide) (by decide)) dX9_all_21 ?_
    refine get_X9_246 (pc := 24) C (wg hG (by decide) (by decide)) dX9_all_24 ?_
    refine V_iload_n (pc := 27) C 2 dX9_all_27 rfl rfl ?_
    refine V_iald (pc := 28) C (O) rfl hO (Nat.le_of_ble_eq_true rfl) (wg hG (by decide) (by decide)) wF_18 dX9_all_28 ?_
    refine V_if_ge (tgt := 34) (pc := 29) C dX9_all_29 (by decide) (fun h_29 => ?_) (fun h_29 => ?_)
    · refine V_iload_n (pc := 34) C 1 dX9_all_34 rfl rfl ?_
      refine V_if_ne (tgt := 50) (pc := 35) C dX9_all_35 (by decide) (fun h_35 => ?_) (fun h_35 => ?_)
      · refine V_aload_n (pc := 50) C 0 dX9_all_50 rfl rfl ?_
        refine get_X9_50 (pc := 51) C (wg hG (by decide) (by decide)) dX9_all_51 ?_
        refine get_X9_249 (pc := 54) C (wg hG (by decide) (by decide)) dX9_all_54 ?_
        refine V_iload_n (pc := 57) C 2 dX9_all_57 rfl rfl ?_
        refine V_iald (pc := 58) C (O) rfl hO (Nat.le_of_ble_eq_true rfl) (wg hG (by decide) (by decide)) wF_19 dX9_all_58 ?_
        refine V_iret (pc := 59) C hr hlk dX9_all_59 ⟨_, rfl, ?_⟩
        refine ⟨hS, fun _ => ?_, fun z => absurd h_5 z⟩
        cases hq : plTab (kPr M O nb nt r e1 e2) 128 O with
        | none => rw [hq] at hT0; exact absurd hT0 (Int32.not_lt.mpr h_29)
        | some q =>
          rw [hq] at hT0
          simp only [if_neg h_35]
          exact hT0.2.1
      · refine V_aload_n (pc := 38) C 0 dX9_all_38 rfl rfl ?_
        refine get_X9_50 (pc := 39) C (wg hG (by decide) (by decide)) dX9_all_39 ?_
        refine get_X9_246 (pc := 42) C (wg hG (by decide) (by decide)) dX9_all_42 ?_
        refine V_iload_n (pc := 45) C 2 dX9_all_45 rfl rfl ?_
        refine V_iald (pc := 46) C (O) rfl hO (Nat.le_of_ble_eq_true rfl) (wg hG (by decide) (by decide)) wF_18 dX9_all_46 ?_
        refine V_goto (tgt := 59) (pc := 47) C dX9_all_47 (by decide) ?_
        refine V_iret (pc := 59) C hr hlk dX9_all_59 ⟨_, rfl, ?_⟩
        refine ⟨hS, fun _ => ?_, fun z => absurd h_5 z⟩
        cases hq : plTab (kPr M O nb nt r e1 e2) 128 O with
        | none => rw [hq] at hT0; exact absurd hT0 (Int32.not_lt.mpr h_29)
        | some q =>
          rw [hq] at hT0
          simp only [if_pos h_35]
          exact hT0.1
    · refine V_iconst (v := -1) (pc := 32) C dX9_all_32 (by decide) ?_
      refine V_iret (pc := 33) C hr hlk dX9_all_33 ⟨_, rfl, ?_⟩
      refine ⟨hS, fun _ => ?_, fun z => absurd h_5 z⟩
      cases hq : plTab (kPr M O nb nt r e1 e2) 128 O with
      | none => rfl
      | some q =>
        rw [hq] at hT0
        exact absurd (by rw [hT0.1]; exact nI_pos' (by have := plTab_B (kPr_le hP) 128 (Nat.le_refl _) O q hq; omega)) h_29
  · have h_5 := bJ_0.mp h_5
    refine V_bipush (v := -2) (pc := 8) C dX9_all_8 (by decide) ?_
    refine V_iret (pc := 10) C hr hlk dX9_all_10 ⟨_, rfl, ?_⟩
    exact ⟨Scr.rf, fun z => absurd z h_5, fun _ => rfl⟩
theorem c_X9_heap (hG : 30 ≤ G) (hd : 7 ≤ d) (M : wS) {nb nt r e1 e2 e3 O : Nat} (hP : IP M nb nt r e1 e2 e3) (hU : kUnb M = nI O) (hO : O < 128) (hZ : IZ M) (th : Int32) : Ctr l D cy ad G d yX9_heap cX9_heap 2 (some .int) [.ref (ad 0 0), .int th] M (rI fun x M' => Scr M M' ∧ ((0 ≤ th ∧ th < nI nt) → (hasB (M.1 26 0 3) th.toNatClampNeg → x = -3) ∧ (¬ hasB (M.1 26 0 3) th.toNatClampNeg → (plTab (kPr M O nb nt r e1 e2) 128 O = none → x = -1) ∧ ((∃ q, plTab (kPr M O nb nt r e1 e2) 128 O = some q) → x = hoF (plTab (kPr M O nb nt r e1 e2) 128) th.toNatClampNeg 7 O))) ∧ (¬ (0 ≤ th ∧ th < nI nt) → x = -2)) := by
  obtain ⟨-, ⟨hnt, ht7⟩, -⟩ := id hP
  refine Ctr.of (lv0 := [(0, _), (1, _)]) (by decide) (Nat.le_of_ble_eq_true rfl) rfl ?_
  intro p e s m args below meth c C hr hlk _
  have C : CX p s m args c cX9_heap 2 "CostsAge" D cy ad G (wA ad G) (Rm d) d 0 0 := C
  refine V_aload_n (pc := 0) C 0 dX9_heap_0 rfl rfl ?_
  refine V_iload_n (pc := 1) C 1 dX9_heap_1 rfl rfl ?_
  refine call_X9_147 (pc := 2) C (c_X9_isWare (d := d - 1) hG M _) (by omega) (wg hG (by decide) (by decide)) (Nat.le_of_ble_eq_true rfl) dX9_heap_2 (fun x_2 M_2 h_2 => ?_)
  obtain ⟨e_2, rfl⟩ := h_2
  have e_2 := e_2.symm
  subst e_2
  refine V_if_ne (tgt := 11) (pc := 5) C dX9_heap_5 (by decide) (fun h_5 => ?_) (fun h_5 => ?_)
  · have h_5 := bJ_1.mp h_5
    rw [hnt] at h_5
    obtain ⟨k, hk, rfl⟩ := ix_of h_5.1 h_5.2 (by omega)
    have ek : (nI k).toNatClampNeg = k := nI_clamp (by omega)
    refine V_aload_n (pc := 11) C 0 dX9_heap_11 rfl rfl ?_
    refine get_X9_64 (pc := 12) C (wg hG (by decide) (by decide)) dX9_heap_12 ?_
    refine get_X9_169 (pc := 15) C (wg hG (by decide) (by decide)) dX9_heap_15 ?_
    refine V_iload_n (pc := 18) C 1 dX9_heap_18 rfl rfl ?_
    refine call_X9_209 (pc := 19) C (c_X9_has (d := d - 1) M _ _) (by omega) (Nat.le_of_ble_eq_true rfl) dX9_heap_19 (fun x_19 M_19 h_19 => ?_)
    obtain ⟨e_19, rfl⟩ := h_19
    have e_19 := e_19.symm
    subst e_19
    refine V_if_eq (tgt := 28) (pc := 22) C dX9_heap_22 (by decide) (fun h_22 => ?_) (fun h_22 => ?_)
    · have h_22 := bJ_0.mp h_22
      refine V_aload_n (pc := 28) C 0 dX9_heap_28 rfl rfl ?_
      refine call_X9_243 (pc := 29) C (c_X9_planAll (d := d - 1) hG (by omega) M hP hU hO hZ) (by omega) (wg hG (by decide) (by decide)) (Nat.le_of_ble_eq_true rfl) dX9_heap_29 (fun M_29 h_29 => ?_)
      obtain ⟨hS, hT⟩ := h_29
      have hU2 : (1 <<< (M_29.1 0 0 12 &&& 31) - 1) &&& (M_29.1 26 0 3 ^^^ -1) = nI O := by rw [hS.1 0 0 (by decide), hS.1 26 0 (by decide)]; exact hU
      refine V_aload_n (pc := 32) C 0 dX9_heap_32 rfl rfl ?_
      refine get_X9_50 (pc := 33) C (wg hG (by decide) (by decide)) dX9_heap_33 ?_
      refine V_iload_n (pc := 36) C 1 dX9_heap_36 rfl rfl ?_
      refine V_aload_n (pc := 37) C 0 dX9_heap_37 rfl rfl ?_
      refine call_X9_216 (pc := 38) C (c_X9_unbought (d := d - 1) hG M_29) (by omega) (wg hG (by decide) (by decide)) (Nat.le_of_ble_eq_true rfl) dX9_heap_38 (fun x_38 M_38 h_38 => ?_)
      obtain ⟨e_38, rfl⟩ := h_38
      have e_38 := e_38.symm
      subst e_38
      rw [hU2]
      refine call_X9_252 (pc := 41) C (c_X2_heapOf (d := d - 1) hG (by omega) M_29 (kPr_le hP) (t := k) hO hT) (by omega) (wg hG (by decide) (by decide)) (Nat.le_of_ble_eq_true rfl) dX9_heap_41 (fun x_41 M_41 h_41 => ?_)
      obtain ⟨e_9, h_9⟩ := h_41
      have e_9 := e_9.symm
      subst e_9
      refine V_iret (pc := 44) C hr hlk dX9_heap_44 ⟨_, rfl, ?_⟩
      refine ⟨hS, fun _ => ⟨fun z => absurd z (by rw [ek]; exact h_22), fun _ => ?_⟩, fun z => absurd h_5 z⟩
      rw [ek]
      exact h_9
    · have h_22 := bJ_1.mp h_22
      refine V_bipush (v := -3) (pc := 25) C dX9_heap_25 (by decide) ?_
      refine V_iret (pc := 27) C hr hlk dX9_heap_27 ⟨_, rfl, ?_⟩
      exact ⟨Scr.rf, fun _ => ⟨fun _ => rfl, fun z => absurd (by rw [ek]; exact h_22) z⟩, fun z => absurd h_5 z⟩
  · have h_5 := bJ_0.mp h_5
    rw [hnt] at h_5
    refine V_bipush (v := -2) (pc := 8) C dX9_heap_8 (by decide) ?_
    refine V_iret (pc := 10) C hr hlk dX9_heap_10 ⟨_, rfl, ?_⟩
    exact ⟨Scr.rf, fun z => absurd z h_5, fun _ => rfl⟩
end S26
