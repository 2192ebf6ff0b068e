theorem unb_i : ∀ n, n < 8 → ∀ b, b < 128 → (1 <<< (nI n &&& 31) - 1) &&& (nI b ^^^ -1) = nI ((2 ^ n - 1) &&& (127 ^^^ b)) := by decide +kernel
theorem kPr_le {M : wS} {O nb nt r e1 e2 e3 : Nat} (hP : IP M nb nt r e1 e2 e3) : ∀ h p, kPr M O nb nt r e1 e2 h = some p → p ≤ 2000 := by
  intro h p hp
  unfold kPr at hp
  split at hp
  · next hc =>
    have hr := kLeast_range (hP.scr (M' := kTieM M nt (nI h)) (kShow_scr _ _ _ _)) 0 (by decide)
    cases hp
    rcases hr with hr | hr
    · rw [hr] at hc
      exact absurd hc.2.2 (by decide)
    · have : (kLeast (kTieM M nt (nI h)) nb r e1 e2 0).toNatClampNeg = (kLeast (kTieM M nt (nI h)) nb r e1 e2 0).toInt.toNat := rfl
      omega
  · cases hp
theorem toNat_nI {x : Int32} (h : 0 ≤ x) : x = nI x.toNatClampNeg := by
  have h1 : (0 : Int32).toInt ≤ x.toInt := Int32.le_iff_toInt_le.mp h
  have h2 : (0 : Int32).toInt = 0 := by decide
  have h3 := Int32.toInt_lt x
  have : x.toNatClampNeg = x.toInt.toNat := rfl
  rw [this, i32_eq, nI_toInt (by omega)]
  omega
/-- what holds of the plan's rows when the price of S has been put -/
theorem pl_mid {M M1 M3 M2 : wS} {pr : Nat → Option Nat} {T : Nat → Option (Nat × Nat × Nat)} {S O : Nat} {w : Int32} (h_s : St M1 M3) (hM2 : mset M3 17 0 S w = M2) (a1 : ∀ h, h < S → h &&& O = h → 0 < h → eP (pr h) (M1.1 17 0 h)) (a2 : ∀ S', S' < S → S' &&& O = S' → eT (T S') (M1.1 18 0 S') (M1.1 19 0 S') (M1.1 20 0 S')) (h_pr : eP (pr S) w) (hS : Scr M M1) :
    Scr M M2 ∧ (∀ h, h ≤ S → h &&& O = h → 0 < h → eP (pr h) (M2.1 17 0 h)) ∧ (∀ S', S' < S → S' &&& O = S' → eT (T S') (M2.1 18 0 S') (M2.1 19 0 S') (M2.1 20 0 S')) := by
  subst hM2
  have k18 : ∀ g, g = 18 ∨ g = 19 ∨ g = 20 → ∀ j, (mset M3 17 0 S w).1 g 0 j = M1.1 g 0 j := by
    intro g hg j
    rw [mset_at, if_neg (by omega), h_s.1 g 0 (by omega) (by omega) (by omega)]
  refine ⟨(hS.tr h_s.scr).tr ⟨fun g i hg => ?_, rfl, ?_, ?_, ?_⟩, fun h q1 q2 q3 => ?_, fun S' q1 q2 => ?_⟩
  · funext j
    rw [mset_at, if_neg (fun z => hg (by simp [z.1]))]
  · rw [mset_at, if_neg (by omega)]
  · rw [mset_at, if_neg (by omega)]
  · rw [mset_at, if_neg (by omega)]
  · by_cases e : h = S
    · subst e
      rw [mset_at, if_pos ⟨rfl, rfl, rfl⟩]
      exact h_pr
    · rw [mset_at, if_neg (fun z => e z.2.2), h_s.1 17 0 (by decide) (by decide) (by decide)]
      exact a1 h (by omega) q2 q3
  · rw [k18 18 (by omega), k18 19 (by omega), k18 20 (by omega)]
    exact a2 S' q1 q2
theorem sub_sub {a b c : Nat} (h1 : a &&& b = a) (h2 : b &&& c = b) : a &&& c = a := by
  rw [← h1, Nat.and_assoc, h2]
theorem pl_pr {M2 : wS} {pr : Nat → Option Nat} {S O : Nat} (hS : S < 128) (hSO : S &&& O = S) (a1 : ∀ h, h ≤ S → h &&& O = h → 0 < h → eP (pr h) (M2.1 17 0 h)) : ∀ h, h ∈ hsL S → eP (pr h) (M2.1 17 0 h) := by
  intro h hh
  obtain ⟨g1, g2, g3⟩ := hsL_mem.mp hh
  obtain ⟨f1, -, -⟩ := hs_facts S hS h (by omega) g2 g3
  exact a1 h g1 (sub_sub g2 hSO) f1
theorem pl_T {M2 : wS} {pr : Nat → Option Nat} {S O : Nat} (hS : S < 128) (hSO : S &&& O = S) (a2 : ∀ S', S' < S → S' &&& O = S' → eT (plTab pr 128 S') (M2.1 18 0 S') (M2.1 19 0 S') (M2.1 20 0 S')) : ∀ S', S' < S → S' &&& S = S' → eT (plTab pr S S') (M2.1 18 0 S') (M2.1 19 0 S') (M2.1 20 0 S') := by
  intro S' h1 h2
  have := a2 S' h1 (sub_sub h2 hSO)
  rw [show (128 : Nat) = S' + 1 + (127 - S') by omega, plTab_le] at this
  rw [show S = S' + 1 + (S - S' - 1) by omega, plTab_le] 
  exact this
theorem pl_end {M M2 : wS} {pr : Nat → Option Nat} {S O : Nat} {t m f : Int32} (hz : Scr M M2 ∧ (∀ h, h ≤ S → h &&& O = h → 0 < h → eP (pr h) (M2.1 17 0 h)) ∧ (∀ S', S' < S → S' &&& O = S' → eT (plTab pr 128 S') (M2.1 18 0 S') (M2.1 19 0 S') (M2.1 20 0 S'))) (h0 : 0 < S) (hS : S < 128) (h_c : eT (plCell pr (plTab pr S) S) t m f) :
    Scr M (kPut M2 S t m f) ∧ (∀ h, h < S + 1 → h &&& O = h → 0 < h → eP (pr h) ((kPut M2 S t m f).1 17 0 h)) ∧ (∀ S', S' < S + 1 → S' &&& O = S' → eT (plTab pr 128 S') ((kPut M2 S t m f).1 18 0 S') ((kPut M2 S t m f).1 19 0 S') ((kPut M2 S t m f).1 20 0 S')) := by
  refine ⟨hz.1.tr ⟨fun g i hg => ?_, rfl, ?_, ?_, ?_⟩, fun h q1 q2 q3 => ?_, fun S' q1 q2 => ?_⟩
  · funext j
    simp only [kPut, mset_at]
    rw [if_neg (fun z => hg (by simp [z.1])), if_neg (fun z => hg (by simp [z.1])), if_neg (fun z => hg (by simp [z.1]))]
  · exact (kPut_18 M2 S t m f (by omega)).1
  · exact (kPut_18 M2 S t m f (by omega)).2.1
  · exact (kPut_18 M2 S t m f (by omega)).2.2
  · rw [kPut_17]
    exact hz.2.1 h (by omega) q2 q3
  · by_cases e : S' = S
    · subst e
      have w : (kPut M2 S' t m f).1 18 0 S' = t ∧ (kPut M2 S' t m f).1 19 0 S' = m ∧ (kPut M2 S' t m f).1 20 0 S' = f := by simp [kPut, mset_at]
      rw [w.1, w.2.1, w.2.2, show (128 : Nat) = S' + 1 + (127 - S') by omega, plTab_le]
      show eT (if S' = S' then (if S' = 0 then some (0, 0, 0) else plCell pr (plTab pr S') S') else plTab pr S' S') t m f
      rw [if_pos rfl, if_neg (by omega)]
      exact h_c
    · obtain ⟨w1, w2, w3⟩ := kPut_18 M2 S t m f e
      rw [w1, w2, w3]
      exact hz.2.2 S' (by omega) q2
section S25
variable {l : Launch} {D : va_G} {cy : Nat → ClassId} {ad : Nat → Nat → Nat} {G d : Nat}
theorem lp_X9_planAll {p : Program} {e : Env} {s : State} {m : MethodId} {args : Array Value} {below : List Frame} {meth : Method} {c : Code} (C : CX p s m args c cX9_planAll 3 "CostsAge" D cy ad G (wA ad G) (Rm d) d 0 0) (hr : meth.sig.returnType = none) (hlk : meth.locks = false) (hG : 30 ≤ G) (hd : 6 ≤ d) (M : wS) {nb nt r e1 e2 e3 O : Nat} (hP : IP M nb nt r e1 e2 e3) (hO : O < 128) (Qf : wS → Prop) (hq : ∀ M', Scr M M' → (∀ S', S' &&& O = S' → S' ≤ O → eT (plTab (kPr M O nb nt r e1 e2) 128 S') (M'.1 18 0 S') (M'.1 19 0 S') (M'.1 20 0 S')) → Qf M') : ∀ (n S : Nat) (M1 : wS), S + n = O + 1 → 0 < S → Scr M M1 → (∀ h, h < S → h &&& O = h → 0 < h → eP (kPr M O nb nt r e1 e2 h) (M1.1 17 0 h)) → (∀ S', S' < S → S' &&& O = S' → eT (plTab (kPr M O nb nt r e1 e2) 128 S') (M1.1 18 0 S') (M1.1 19 0 S') (M1.1 20 0 S')) → V p l e (Rm d) s m args below meth c 3 D cy ad G (wA ad G) 0 0 (MQ below (wQ D cy ad G (rV Qf)) args s 0 0 (wA ad G)) 7 [(0, .ref (ad 0 0)), (1, .int (nI O)), (2, .int (nI S))] [] M1 := by
  obtain ⟨-, ⟨hnt, ht7⟩, -⟩ := id hP
  intro n
  induction n with
  | zero =>
    intro S M1 hn h0 hS a1 a2
    refine V_iload_n (pc := 7) C 2 dX9_planAll_7 rfl rfl ?_
    refine V_iload_n (pc := 8) C 1 dX9_planAll_8 rfl rfl ?_
    refine V_icmp_gt (tgt := 61) (pc := 9) C dX9_planAll_9 (by decide) (fun h_9 => ?_) (fun h_9 => ?_)
    · refine V_vret (pc := 61) C hr hlk dX9_planAll_61 ⟨rfl, ?_⟩
      exact hq M1 hS (fun S' q1 q2 => a2 S' (by omega) q1)
    · exact absurd (nI_lt (by omega) (by omega)) h_9
  | succ n ih =>
    intro S M1 hn h0 hS a1 a2
    have hS7 : S < 128 := by omega
    have hP1 := hP.scr hS
    refine V_iload_n (pc := 7) C 2 dX9_planAll_7 rfl rfl ?_
    refine V_iload_n (pc := 8) C 1 dX9_planAll_8 rfl rfl ?_
    refine V_icmp_gt (tgt := 61) (pc := 9) C dX9_planAll_9 (by decide) (fun h_9 => ?_) (fun h_9 => ?_)
    · exact absurd h_9 (nI_nlt (by omega) (by omega))
    · refine V_iload_n (pc := 12) C 2 dX9_planAll_12 rfl rfl ?_
      refine V_iload_n (pc := 13) C 1 dX9_planAll_13 rfl rfl ?_
      refine V_iconst (v := -1) (pc := 14) C dX9_planAll_14 (by decide) ?_
      refine V_ixor (pc := 15) C dX9_planAll_15 ?_
      refine V_iand (pc := 16) C dX9_planAll_16 ?_
      refine V_if_ne (tgt := 55) (pc := 17) C dX9_planAll_17 (by decide) (fun h_17 => ?_) (fun h_17 => ?_)
      · rw [and_i S hS7 O hO] at h_17
        refine Vs_iinc (v := nI (S + 1)) (lv' := [(0, _), (1, _), (2, _)]) (pc := 55) C 2 dX9_planAll_55 rfl (by decide) rfl (nI_i1 (S)) rfl ?_
        refine V_goto (tgt := 7) (pc := 58) C dX9_planAll_58 (by decide) ?_
        exact ih (S + 1) _ (by omega) (by omega) hS (fun h q1 q2 q3 => a1 h (Nat.lt_of_le_of_ne (by omega) (fun z => h_17 (z ▸ q2))) q2 q3) (fun S' q1 q2 => a2 S' (Nat.lt_of_le_of_ne (by omega) (fun z => h_17 (z ▸ q2))) q2)
      · rw [and_i S hS7 O hO] at h_17
        refine V_aload_n (pc := 20) C 0 dX9_planAll_20 rfl rfl ?_
        refine get_X9_50 (pc := 21) C (wg hG (by decide) (by decide)) dX9_planAll_21 ?_
        refine get_X9_255 (pc := 24) C (wg hG (by decide) (by decide)) dX9_planAll_24 ?_
        refine V_iload_n (pc := 27) C 2 dX9_planAll_27 rfl rfl ?_
        refine V_aload_n (pc := 28) C 0 dX9_planAll_28 rfl rfl ?_
        refine V_iload_n (pc := 29) C 2 dX9_planAll_29 rfl rfl ?_
        refine call_X9_180 (pc := 30) C (c3_X9_tie (d := d - 1) hG (by omega) M1 (by rw [hS.1 0 0 (by decide)]; exact hnt) ht7 (nI S)) (by omega) (wg hG (by decide) (by decide)) (Nat.le_of_ble_eq_true rfl) dX9_planAll_30 (fun x_30 M_30 h_30 => ?_)
        obtain ⟨rfl, h_t, h_s⟩ := h_30
        refine V_if_eq (tgt := 44) (pc := 33) C dX9_planAll_33 (by decide) (fun h_33 => ?_) (fun h_33 => ?_)
        · have h_33 := bJ_0.mp h_33
          rw [kTied_scr hS] at h_33
          refine V_bipush (v := -5) (pc := 44) C dX9_planAll_44 (by decide) ?_
          refine V_iast (pc := 46) C (S) rfl hS7 (Nat.le_of_ble_eq_true rfl) (wg hG (by decide) (by decide)) (fun _ => wF_17) dX9_planAll_46 ?_
          have h_pr : eP (kPr M O nb nt r e1 e2 S) (-5) := by
            rw [show kPr M O nb nt r e1 e2 S = none from if_neg (fun z => h_33 z.2.1)]
            exact (by decide : (-5 : Int32) < 0)
          have h_s2 := h_s
          generalize (-5 : Int32) = w at h_pr ⊢
          generalize hM2 : mset M_30 17 0 S w = M2
          have hz := pl_mid h_s2 hM2 a1 a2 h_pr hS
          refine V_aload_n (pc := 47) C 0 dX9_planAll_47 rfl rfl ?_
          refine get_X9_50 (pc := 48) C (wg hG (by decide) (by decide)) dX9_planAll_48 ?_
          refine V_iload_n (pc := 51) C 2 dX9_planAll_51 rfl rfl ?_
          refine call_X9_258 (pc := 52) C (c_X2_choose (d := d - 1) hG (by omega) M2 (pr := kPr M O nb nt r e1 e2) (T := plTab (kPr M O nb nt r e1 e2) S) hS7 h0 (kPr_le hP) (fun S' _ => plTab_B (kPr_le hP) S (by omega) S') (pl_pr hS7 h_17 hz.2.1) (pl_T hS7 h_17 hz.2.2)) (by omega) (wg hG (by decide) (by decide)) (Nat.le_of_ble_eq_true rfl) dX9_planAll_52 (fun M_52 h_52 => ?_)
          obtain ⟨t9, m9, f9, e9, h_c⟩ := h_52
          subst e9
          refine Vs_iinc (v := nI (S + 1)) (lv' := [(0, _), (1, _), (2, _)]) (pc := 55) C 2 dX9_planAll_55 rfl (by decide) rfl (nI_i1 (S)) rfl ?_
          refine V_goto (tgt := 7) (pc := 58) C dX9_planAll_58 (by decide) ?_
          have hw := pl_end (M := M) (O := O) hz h0 hS7 h_c
          exact ih (S + 1) _ (by omega) (by omega) hw.1 hw.2.1 hw.2.2
        · have h_33 := bJ_1.mp h_33
          have e9 := h_t h_33
          subst e9
          rw [kTied_scr hS] at h_33
          have hP2 := hP1.scr h_s.scr
          refine V_aload_n (pc := 36) C 0 dX9_planAll_36 rfl rfl ?_
          refine V_iconst (v := 0) (pc := 37) C dX9_planAll_37 (by decide) ?_
          refine call_X9_186 (pc := 38) C (c_X9_leastCost (d := d - 1) hG (by omega) _ hP2.1.1 hP2.1.2 hP2.2.2.1 hP2.2.2.2.1 hP2.2.2.2.2 0 (by decide)) (by omega) (wg hG (by decide) (by decide)) (Nat.le_of_ble_eq_true rfl) dX9_planAll_38 (fun x_38 M_38 h_38 => ?_)
          obtain ⟨hS1, rfl⟩ := h_38
          have h_s2 := h_s.tr hS1.st
          rw [kLeast_tie hS]
          refine V_goto (tgt := 46) (pc := 41) C dX9_planAll_41 (by decide) ?_
          refine V_iast (pc := 46) C (S) rfl hS7 (Nat.le_of_ble_eq_true rfl) (wg hG (by decide) (by decide)) (fun _ => wF_17) dX9_planAll_46 ?_
          have h_pr : eP (kPr M O nb nt r e1 e2 S) (kLeast (kTieM M nt (nI S)) nb r e1 e2 0) := by
            by_cases hz : 0 ≤ kLeast (kTieM M nt (nI S)) nb r e1 e2 0
            · rw [show kPr M O nb nt r e1 e2 S = some (kLeast (kTieM M nt (nI S)) nb r e1 e2 0).toNatClampNeg from if_pos ⟨h_17, h_33, hz⟩]
              exact toNat_nI hz
            · rw [show kPr M O nb nt r e1 e2 S = none from if_neg (fun z => hz z.2.2)]
              exact Int32.not_le.mp hz
          generalize kLeast (kTieM M nt (nI S)) nb r e1 e2 0 = w at h_pr ⊢
          generalize hM2 : mset M_38 17 0 S w = M2
          have hz := pl_mid h_s2 hM2 a1 a2 h_pr hS
          refine V_aload_n (pc := 47) C 0 dX9_planAll_47 rfl rfl ?_
          refine get_X9_50 (pc := 48) C (wg hG (by decide) (by decide)) dX9_planAll_48 ?_
          refine V_iload_n (pc := 51) C 2 dX9_planAll_51 rfl rfl ?_
          refine call_X9_258 (pc := 52) C (c_X2_choose (d := d - 1) hG (by omega) M2 (pr := kPr M O nb nt r e1 e2) (T := plTab (kPr M O nb nt r e1 e2) S) hS7 h0 (kPr_le hP) (fun S' _ => plTab_B (kPr_le hP) S (by omega) S') (pl_pr hS7 h_17 hz.2.1) (pl_T hS7 h_17 hz.2.2)) (by omega) (wg hG (by decide) (by decide)) (Nat.le_of_ble_eq_true rfl) dX9_planAll_52 (fun M_52 h_52 => ?_)
          obtain ⟨t9, m9, f9, e9, h_c⟩ := h_52
          subst e9
          refine Vs_iinc (v := nI (S + 1)) (lv' := [(0, _), (1, _), (2, _)]) (pc := 55) C 2 dX9_planAll_55 rfl (by decide) rfl (nI_i1 (S)) rfl ?_
          refine V_goto (tgt := 7) (pc := 58) C dX9_planAll_58 (by decide) ?_
          have hw := pl_end (M := M) (O := O) hz h0 hS7 h_c
          exact ih (S + 1) _ (by omega) (by omega) hw.1 hw.2.1 hw.2.2
end S25
