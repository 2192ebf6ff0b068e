theorem eStep_eq {M M' : wS} (h : Scr M M') (r e1 e2 b : Nat) (fee : Int32) {bars bars' : Nat → Int32} {t : Nat} (hb : bars' t = bars t) (sum : Int32) : eStep M' r e1 e2 b fee bars' t sum = eStep M r e1 e2 b fee bars t sum := by
  unfold eStep
  rw [kCost_alone h, h.1 29 0 (by decide), h.1 26 0 (by decide), h.1 5 b (by decide), hb]
theorem eRunF_eq {M M' : wS} (h : Scr M M') (r e1 e2 b : Nat) (fee : Int32) {bars bars' : Nat → Int32} : ∀ (n t : Nat) (sum : Int32), (∀ t', t' < t + n → bars' t' = bars t') → eRunF M' r e1 e2 b fee bars' t n sum = eRunF M r e1 e2 b fee bars t n sum := by
  intro n
  induction n with
  | zero => intro t sum _; rfl
  | succ n ih =>
    intro t sum hb
    rw [eRunF, eRunF, eStep_eq h r e1 e2 b fee (hb t (by omega)), ih _ _ (fun t' h' => hb t' (by omega))]
theorem barF_eq {f g : Nat → Int32} (b : Nat) : ∀ (n c : Nat) (bar : Int32), (∀ c', c' < c + n → f c' = g c') → barF f b c n bar = barF g b c n bar := by
  intro n
  induction n with
  | zero => intro c bar _; rfl
  | succ n ih =>
    intro c bar h
    have : bStep f b c bar = bStep g b c bar := by
      unfold bStep
      rw [h c (by omega)]
    rw [barF, barF, this, ih _ _ (fun c' h' => h c' (by omega))]
noncomputable def sBar (M : wS) (nb r e1 e2 : Nat) (A : Nat → Int32) (b t : Nat) : Int32 := barF (fun c => kFc M r e1 e2 c (A c) t) b 0 nb 1000000
noncomputable def sEarn (M : wS) (nb nt r e1 e2 : Nat) (A : Nat → Int32) (b : Nat) (f : Int32) : Int32 := eRunF M r e1 e2 b f (sBar M nb r e1 e2 A b) 0 nt 0
def fStep (w : Int32 → Int32) (f : Nat) (q : Int32 × Int32) : Int32 × Int32 := if w (nI f) ≤ q.2 then q else (nI f, w (nI f))
def fRun (w : Int32 → Int32) : Nat → Nat → (Int32 × Int32) → (Int32 × Int32)
  | _, 0, q => q
  | f, n + 1, q => fRun w (f + 1) n (fStep w f q)
noncomputable def sFee (M : wS) (nb nt r e1 e2 : Nat) (A : Nat → Int32) (b : Nat) : Int32 := (fRun (sEarn M nb nt r e1 e2 A b) 0 21 (A b, sEarn M nb nt r e1 e2 A b (A b))).1
noncomputable def sRound (M : wS) (nb nt r e1 e2 : Nat) : Nat → Nat → ((Nat → Int32) × Bool) → ((Nat → Int32) × Bool)
  | _, 0, q => q
  | b, n + 1, q => sRound M nb nt r e1 e2 (b + 1) n (upd q.1 b (sFee M nb nt r e1 e2 q.1 b), q.2 || !(sFee M nb nt r e1 e2 q.1 b == q.1 b))
noncomputable def sRest (M : wS) (nb nt r e1 e2 : Nat) : Nat → ((Nat → Int32) × Bool) → (Nat → Int32)
  | 0, q => q.1
  | n + 1, q => if q.2 = true then sRest M nb nt r e1 e2 n (sRound M nb nt r e1 e2 0 nb (q.1, false)) else q.1
/-- the asked fees and the costs by them stand in the rows -/
def rOK (M M1 : wS) (nb nt r e1 e2 : Nat) (A : Nat → Int32) : Prop := Fr [13, 14, 15, 23, 24, 25] M M1 ∧ (∀ c, c < nb → M1.1 24 0 c = A c) ∧ ∀ c t, c < nb → t < nt → M1.1 23 0 (7 * c + t) = kFc M r e1 e2 c (A c) t
theorem rOK.bar {M M1 : wS} {nb nt r e1 e2 : Nat} {A : Nat → Int32} (h : rOK M M1 nb nt r e1 e2 A) {b t : Nat} (ht : t < nt) : kBar M1 nb b t = sBar M nb r e1 e2 A b t := barF_eq b nb 0 _ (fun c hc => h.2.2 c t (by omega) ht)
theorem rOK.st {M M1 M2 : wS} {nb nt r e1 e2 : Nat} {A : Nat → Int32} (h : rOK M M1 nb nt r e1 e2 A) (h2 : Fr [13, 14, 15, 25] M1 M2) : rOK M M2 nb nt r e1 e2 A := by
  refine ⟨h.1.tr (h2.sub (by decide)), fun c hc => ?_, fun c t hc ht => ?_⟩
  · rw [h2.1 24 0 (by decide)]
    exact h.2.1 c hc
  · rw [h2.1 23 0 (by decide)]
    exact h.2.2 c t hc ht
theorem rOK.scr {M M1 : wS} {nb nt r e1 e2 : Nat} {A : Nat → Int32} (h : rOK M M1 nb nt r e1 e2 A) : Scr M M1 := h.1.scr (by decide) (by decide)
section S32
variable {l : Launch} {D : va_G} {cy : Nat → ClassId} {ad : Nat → Nat → Nat} {G d : Nat}
theorem lp_X9_takesBetterFee {p : Program} {e : Env} {s : State} {m : MethodId} {args : Array Value} {below : List Frame} {meth : Method} {c : Code} (C : CX p s m args c cX9_takesBetterFee 6 "CostsAge" D cy ad G (wA ad G) (Rm d) d 0 0) (hr : meth.sig.returnType = (some .boolean)) (hlk : meth.locks = false) (hG : 30 ≤ G) (hd : 6 ≤ d) (M : wS) {nb nt r e1 e2 e3 b : Nat} (hP : IP M nb nt r e1 e2 e3) (hb : b < nb) {A : Nat → Int32} (Qf : Int32 → wS → Prop) (hq : ∀ (x : Int32) (M' : wS), rOK M M' nb nt r e1 e2 (upd A b (sFee M nb nt r e1 e2 A b)) → x = bI (¬ sFee M nb nt r e1 e2 A b = A b) → Qf x M') : ∀ (n f : Nat) (q : Int32 × Int32) (M1 : wS), f + n = 21 → rOK M M1 nb nt r e1 e2 A → (∀ t, t < nt → M1.1 25 0 t = sBar M nb r e1 e2 A b t) → (fRun (sEarn M nb nt r e1 e2 A b) f n q).1 = sFee M nb nt r e1 e2 A b → V p l e (Rm d) s m args below meth c 6 D cy ad G (wA ad G) 0 0 (MQ below (wQ D cy ad G (rI Qf)) args s 0 0 (wA ad G)) 36 [(0, .ref (ad 0 0)), (1, .int (nI b)), (2, .int q.1), (3, .int q.2), (4, .int (nI f))] [] M1 := by
  obtain ⟨⟨hnb, hn7⟩, ⟨hnt, ht7⟩, -⟩ := id hP
  intro n
  induction n with
  | zero =>
    intro f q M1 hf hR hB hs
    have hi2 : nI 20 < nI f := nI_lt (by omega) (by omega)
    have hs : q.1 = sFee M nb nt r e1 e2 A b := hs
    refine V_iload (pc := 36) C 4 dX9_takesBetterFee_36 rfl ?_
    refine V_bipush (v := 20) (pc := 38) C dX9_takesBetterFee_38 (by decide) ?_
    refine V_icmp_gt (tgt := 70) (pc := 40) C dX9_takesBetterFee_40 (by decide) (fun h_40 => ?_) (fun h_40 => ?_)
    · refine V_iload_n (pc := 70) C 2 dX9_takesBetterFee_70 rfl rfl ?_
      refine V_aload_n (pc := 71) C 0 dX9_takesBetterFee_71 rfl rfl ?_
      refine get_X9_57 (pc := 72) C (wg hG (by decide) (by decide)) dX9_takesBetterFee_72 ?_
      refine get_X9_293 (pc := 75) C (wg hG (by decide) (by decide)) dX9_takesBetterFee_75 ?_
      refine V_iload_n (pc := 78) C 1 dX9_takesBetterFee_78 rfl rfl ?_
      refine V_iald (pc := 79) C (b) rfl (by omega) (Nat.le_of_ble_eq_true rfl) (wg hG (by decide) (by decide)) wF_24 dX9_takesBetterFee_79 ?_
      refine V_icmp_ne (tgt := 85) (pc := 80) C dX9_takesBetterFee_80 (by decide) (fun h_80 => ?_) (fun h_80 => ?_)
      · rw [hs, hR.2.1 b hb] at h_80
        refine V_aload_n (pc := 85) C 0 dX9_takesBetterFee_85 rfl rfl ?_
        refine get_X9_57 (pc := 86) C (wg hG (by decide) (by decide)) dX9_takesBetterFee_86 ?_
        refine get_X9_293 (pc := 89) C (wg hG (by decide) (by decide)) dX9_takesBetterFee_89 ?_
        refine V_iload_n (pc := 92) C 1 dX9_takesBetterFee_92 rfl rfl ?_
        refine V_iload_n (pc := 93) C 2 dX9_takesBetterFee_93 rfl rfl ?_
        refine V_iast (pc := 94) C (b) rfl (by omega) (Nat.le_of_ble_eq_true rfl) (wg hG (by decide) (by decide)) (fun _ => wF_24) dX9_takesBetterFee_94 ?_
        refine V_aload_n (pc := 95) C 0 dX9_takesBetterFee_95 rfl rfl ?_
        refine V_iload_n (pc := 96) C 1 dX9_takesBetterFee_96 rfl rfl ?_
        refine V_iload_n (pc := 97) C 2 dX9_takesBetterFee_97 rfl rfl ?_
        refine call_X9_305 (pc := 98) C (c_X9_fillCostsOf (d := d - 1) hG (by omega) (mset M1 24 0 b q.1) (hP.scr (hR.scr.tr ⟨fun g i hg => by funext k; rw [mset_at, if_neg (fun z => hg (by simp [z.1]))], rfl, rfl, rfl, rfl⟩)) (b := b) (by omega) q.1) (by omega) (wg hG (by decide) (by decide)) (Nat.le_of_ble_eq_true rfl) dX9_takesBetterFee_98 (fun M_98 h_98 => ?_)
        obtain ⟨hF1, hA1⟩ := h_98
        refine V_iconst (v := 1) (pc := 101) C dX9_takesBetterFee_101 (by decide) ?_
        refine V_zret (pc := 102) C hr hlk rfl dX9_takesBetterFee_102 ⟨_, rfl, ?_⟩
        refine hq _ _ ⟨?_, ?_, ?_⟩ (bI_t h_80)
        · have h9 : Fr [13, 14, 15, 23, 24, 25] M1 (mset M1 24 0 b q.1) := ⟨fun g i hg => by funext k; rw [mset_at, if_neg (fun z => hg (by simp [z.1]))], rfl⟩
          exact (hR.1.tr h9).tr (hF1.sub (by decide))
        · intro c9 hc9
          rw [hF1.1 24 0 (by decide), mset_at]
          unfold upd
          by_cases e9 : c9 = b
          · rw [if_pos ⟨rfl, rfl, e9⟩, if_pos e9, hs]
          · rw [if_neg (fun z => e9 z.2.2), if_neg e9]
            exact hR.2.1 c9 hc9
        · intro c9 t9 hc9 ht9
          have hsc : Scr M (mset M1 24 0 b q.1) := hR.scr.tr ⟨fun g i hg => by funext k; rw [mset_at, if_neg (fun z => hg (by simp [z.1]))], rfl, rfl, rfl, rfl⟩
          rw [hA1]
          unfold upd
          by_cases e9 : c9 = b
          · subst e9
            rw [if_pos (by omega), Nat.add_sub_cancel_left, kFc_scr hsc, if_pos rfl, hs]
          · rw [if_neg (by omega), mset_at, if_neg (by omega), if_neg e9]
            exact hR.2.2 c9 t9 hc9 ht9
      · rw [hs, hR.2.1 b hb] at h_80
        refine V_iconst (v := 0) (pc := 83) C dX9_takesBetterFee_83 (by decide) ?_
        refine V_zret (pc := 84) C hr hlk rfl dX9_takesBetterFee_84 ⟨_, rfl, ?_⟩
        refine hq _ _ ?_ (bI_f (fun z => z h_80))
        rw [h_80, show upd A b (A b) = A from by funext j; unfold upd; split <;> simp_all]
        exact hR
    · exact absurd hi2 h_40
  | succ n ih =>
    intro f q M1 hf hR hB hs
    have hi2 : ¬ nI 20 < nI f := nI_nlt (by omega) (by omega)
    have hs2 : (fRun (sEarn M nb nt r e1 e2 A b) (f + 1) n (fStep (sEarn M nb nt r e1 e2 A b) f q)).1 = sFee M nb nt r e1 e2 A b := hs
    clear hs
    refine V_iload (pc := 36) C 4 dX9_takesBetterFee_36 rfl ?_
    refine V_bipush (v := 20) (pc := 38) C dX9_takesBetterFee_38 (by decide) ?_
    refine V_icmp_gt (tgt := 70) (pc := 40) C dX9_takesBetterFee_40 (by decide) (fun h_40 => ?_) (fun h_40 => ?_)
    · exact absurd h_40 hi2
    · refine V_aload_n (pc := 43) C 0 dX9_takesBetterFee_43 rfl rfl ?_
      refine V_iload_n (pc := 44) C 1 dX9_takesBetterFee_44 rfl rfl ?_
      refine V_iload (pc := 45) C 4 dX9_takesBetterFee_45 rfl ?_
      refine call_X9_302 (pc := 47) C (c_X9_earnsBy (d := d - 1) hG (by omega) M1 (hP.scr hR.scr) (b := b) (by omega) (nI f)) (by omega) (wg hG (by decide) (by decide)) (Nat.le_of_ble_eq_true rfl) dX9_takesBetterFee_47 (fun x_47 M_47 h_47 => ?_)
      obtain ⟨hS1, rfl⟩ := h_47
      rw [eRunF_eq hR.scr r e1 e2 b (nI f) (bars := sBar M nb r e1 e2 A b) nt 0 0 (fun t' h' => hB t' (by omega))]
      rw [show eRunF M r e1 e2 b (nI f) (sBar M nb r e1 e2 A b) 0 nt 0 = sEarn M nb nt r e1 e2 A b (nI f) from rfl]
      have hR2 := hR.st (hS1.fr.sub (by decide))
      have hB2 : ∀ t, t < nt → M_47.1 25 0 t = sBar M nb r e1 e2 A b t := fun t ht => by rw [hS1.1 25 0 (by decide) (by decide) (by decide)]; exact hB t ht
      refine Vs_istore (lv' := [(0, _), (1, _), (2, _), (3, _), (4, _), (5, _)]) (pc := 50) C dX9_takesBetterFee_50 (by decide) rfl rfl ?_
      refine V_iload (pc := 52) C 5 dX9_takesBetterFee_52 rfl ?_
      refine V_iload_n (pc := 54) C 3 dX9_takesBetterFee_54 rfl rfl ?_
      refine V_icmp_le (tgt := 64) (pc := 55) C dX9_takesBetterFee_55 (by decide) (fun h_55 => ?_) (fun h_55 => ?_)
      · refine Vs_iinc (v := nI (f + 1)) (lv' := [(0, _), (1, _), (2, _), (3, _), (4, _), (5, _)]) (pc := 64) C 4 dX9_takesBetterFee_64 rfl (by decide) rfl (nI_i1 (f)) rfl ?_
        refine V_goto (tgt := 36) (pc := 67) C dX9_takesBetterFee_67 (by decide) ?_
        refine V_loc (lv' := [(0, _), (1, _), (2, _), (3, _), (4, _)]) [0, 1, 2, 3, 4] rfl ?_
        exact ih (f + 1) q _ (by omega) hR2 hB2 (by rw [← hs2, fStep, if_pos h_55])
      · refine V_iload (pc := 58) C 5 dX9_takesBetterFee_58 rfl ?_
        refine Vs_istore_n (lv' := [(0, _), (1, _), (2, _), (3, _), (4, _), (5, _)]) (pc := 60) C dX9_takesBetterFee_60 rfl (by decide) rfl rfl ?_
        refine V_iload (pc := 61) C 4 dX9_takesBetterFee_61 rfl ?_
        refine Vs_istore_n (lv' := [(0, _), (1, _), (2, _), (3, _), (4, _), (5, _)]) (pc := 63) C dX9_takesBetterFee_63 rfl (by decide) rfl rfl ?_
        refine Vs_iinc (v := nI (f + 1)) (lv' := [(0, _), (1, _), (2, _), (3, _), (4, _), (5, _)]) (pc := 64) C 4 dX9_takesBetterFee_64 rfl (by decide) rfl (nI_i1 (f)) rfl ?_
        refine V_goto (tgt := 36) (pc := 67) C dX9_takesBetterFee_67 (by decide) ?_
        refine V_loc (lv' := [(0, _), (1, _), (2, _), (3, _), (4, _)]) [0, 1, 2, 3, 4] rfl ?_
        exact ih (f + 1) (nI f, sEarn M nb nt r e1 e2 A b (nI f)) _ (by omega) hR2 hB2 (by rw [← hs2, fStep, if_neg h_55])
theorem c_X9_takesBetterFee (hG : 30 ≤ G) (hd : 6 ≤ d) (M : wS) {nb nt r e1 e2 e3 b : Nat} (hP : IP M nb nt r e1 e2 e3) (hb : b < nb) {A : Nat → Int32} {M1 : wS} (hR : rOK M M1 nb nt r e1 e2 A) : Ctr l D cy ad G d yX9_takesBetterFee cX9_takesBetterFee 6 (some .boolean) [.ref (ad 0 0), .int (nI b)] M1 (rI fun x M' => rOK M M' nb nt r e1 e2 (upd A b (sFee M nb nt r e1 e2 A b)) ∧ x = bI (¬ sFee M nb nt r e1 e2 A b = A b)) := by
  obtain ⟨⟨hnb, hn7⟩, ⟨hnt, ht7⟩, -⟩ := id hP
  have hb1 : M1.1 0 0 11 = nI nb := by rw [hR.1.1 0 0 (by decide)]; exact hnb
  have ht1 : M1.1 0 0 12 = nI nt := by rw [hR.1.1 0 0 (by decide)]; exact hnt
  refine Ctr.of (lv0 := [(0, _), (1, _)]) (by decide) (Nat.le_of_ble_eq_true rfl) rfl ?_
  intro p e s m args below meth c C hr hlk _
  have C : CX p s m args c cX9_takesBetterFee 6 "CostsAge" D cy ad G (wA ad G) (Rm d) d 0 0 := C
  refine V_aload_n (pc := 0) C 0 dX9_takesBetterFee_0 rfl rfl ?_
  refine get_X9_57 (pc := 1) C (wg hG (by decide) (by decide)) dX9_takesBetterFee_1 ?_
  refine V_iload_n (pc := 4) C 1 dX9_takesBetterFee_4 rfl rfl ?_
  refine V_aload_n (pc := 5) C 0 dX9_takesBetterFee_5 rfl rfl ?_
  refine get_X9_106 (pc := 6) C (wg hG (by decide) (by decide)) dX9_takesBetterFee_6 ?_
  refine V_aload_n (pc := 9) C 0 dX9_takesBetterFee_9 rfl rfl ?_
  refine get_X9_124 (pc := 10) C (wg hG (by decide) (by decide)) dX9_takesBetterFee_10 ?_
  rw [hb1, ht1]
  refine call_X9_299 (pc := 13) C (c_X1_setBars (d := d - 1) hG (by omega) M1 hn7 ht7 (b := b) (by omega)) (by omega) (wg hG (by decide) (by decide)) (Nat.le_of_ble_eq_true rfl) dX9_takesBetterFee_13 (fun M_13 h_13 => ?_)
  obtain ⟨hF1, hA1⟩ := h_13
  have hR2 := hR.st (hF1.sub (by decide))
  have hB2 : ∀ t, t < nt → M_13.1 25 0 t = sBar M nb r e1 e2 A b t := fun t ht => by rw [hA1 t ht]; exact hR.bar ht
  refine V_aload_n (pc := 16) C 0 dX9_takesBetterFee_16 rfl rfl ?_
  refine get_X9_57 (pc := 17) C (wg hG (by decide) (by decide)) dX9_takesBetterFee_17 ?_
  refine get_X9_293 (pc := 20) C (wg hG (by decide) (by decide)) dX9_takesBetterFee_20 ?_
  refine V_iload_n (pc := 23) C 1 dX9_takesBetterFee_23 rfl rfl ?_
  refine V_iald (pc := 24) C (b) rfl (by omega) (Nat.le_of_ble_eq_true rfl) (wg hG (by decide) (by decide)) wF_24 dX9_takesBetterFee_24 ?_
  rw [hR2.2.1 b hb]
  refine Vs_istore_n (lv' := [(0, _), (1, _), (2, _)]) (pc := 25) C dX9_takesBetterFee_25 rfl (by decide) rfl rfl ?_
  refine V_aload_n (pc := 26) C 0 dX9_takesBetterFee_26 rfl rfl ?_
  refine V_iload_n (pc := 27) C 1 dX9_takesBetterFee_27 rfl rfl ?_
  refine V_iload_n (pc := 28) C 2 dX9_takesBetterFee_28 rfl rfl ?_
  refine call_X9_302 (pc := 29) C (c_X9_earnsBy (d := d - 1) hG (by omega) M_13 (hP.scr hR2.scr) (b := b) (by omega) _) (by omega) (wg hG (by decide) (by decide)) (Nat.le_of_ble_eq_true rfl) dX9_takesBetterFee_29 (fun x_29 M_29 h_29 => ?_)
  obtain ⟨hS1, rfl⟩ := h_29
  rw [eRunF_eq hR2.scr r e1 e2 b _ (bars := sBar M nb r e1 e2 A b) nt 0 0 (fun t' h' => hB2 t' (by omega))]
  rw [show eRunF M r e1 e2 b (A b) (sBar M nb r e1 e2 A b) 0 nt 0 = sEarn M nb nt r e1 e2 A b (A b) from rfl]
  refine Vs_istore_n (lv' := [(0, _), (1, _), (2, _), (3, _)]) (pc := 32) C dX9_takesBetterFee_32 rfl (by decide) rfl rfl ?_
  refine V_iconst (v := 0) (pc := 33) C dX9_takesBetterFee_33 (by decide) ?_
  refine Vs_istore (lv' := [(0, _), (1, _), (2, _), (3, _), (4, _)]) (pc := 34) C dX9_takesBetterFee_34 (by decide) rfl rfl ?_
  exact lp_X9_takesBetterFee C hr hlk hG hd M hP hb _ (fun x M' h1 h2 => ⟨h1, h2⟩) 21 0 (A b, sEarn M nb nt r e1 e2 A b (A b)) _ (by omega) (hR2.st (hS1.fr.sub (by decide))) (fun t ht => by rw [hS1.1 25 0 (by decide) (by decide) (by decide)]; exact hB2 t ht) rfl
theorem bI_or (P Q : Prop) {i : Decidable P} {j : Decidable Q} (z : Bool) (hz : z = true ↔ (P ∨ Q)) : @bI P i ||| @bI Q j = bI (z = true) := by
  by_cases hp : P <;> by_cases hq : Q
  · have : z = true := hz.mpr (Or.inl hp)
    simp [bI, hp, hq, this]
  · have : z = true := hz.mpr (Or.inl hp)
    simp [bI, hp, hq, this]
  · have : z = true := hz.mpr (Or.inr hq)
    simp [bI, hp, hq, this]
  · have : ¬ z = true := fun e => (hz.mp e).elim hp hq
    simp [bI, hp, hq, this]
theorem lq_X9_rest {p : Program} {e : Env} {s : State} {m : MethodId} {args : Array Value} {below : List Frame} {meth : Method} {c : Code} (C : CX p s m args c cX9_rest 5 "CostsAge" D cy ad G (wA ad G) (Rm d) d 0 0) (hr : meth.sig.returnType = (some .int)) (hlk : meth.locks = false) (hG : 30 ≤ G) (hd : 7 ≤ d) (M : wS) {nb nt r e1 e2 e3 : Nat} (hP : IP M nb nt r e1 e2 e3) (by_ rd : Int32) (Qf : Int32 → wS → Prop) : ∀ (n b : Nat) (q : (Nat → Int32) × Bool) (M1 : wS), b + n = nb → rOK M M1 nb nt r e1 e2 q.1 → (∀ M', rOK M M' nb nt r e1 e2 (sRound M nb nt r e1 e2 b n q).1 → V p l e (Rm d) s m args below meth c 5 D cy ad G (wA ad G) 0 0 (MQ below (wQ D cy ad G (rI Qf)) args s 0 0 (wA ad G)) 91 [(0, .ref (ad 0 0)), (1, .int by_), (2, .int (bI ((sRound M nb nt r e1 e2 b n q).2 = true))), (3, .int rd), (4, .int (nI nb))] [] M') → V p l e (Rm d) s m args below meth c 5 D cy ad G (wA ad G) 0 0 (MQ below (wQ D cy ad G (rI Qf)) args s 0 0 (wA ad G)) 67 [(0, .ref (ad 0 0)), (1, .int by_), (2, .int (bI (q.2 = true))), (3, .int rd), (4, .int (nI b))] [] M1 := by
  obtain ⟨⟨hnb, hn7⟩, -⟩ := id hP
  intro n
  induction n with
  | zero =>
    intro b q M1 hb hR hq
    obtain rfl : b = nb := by omega
    refine V_iload (pc := 67) C 4 dX9_rest_67 rfl ?_
    refine V_aload_n (pc := 69) C 0 dX9_rest_69 rfl rfl ?_
    refine get_X9_106 (pc := 70) C (wg hG (by decide) (by decide)) dX9_rest_70 ?_
    refine V_icmp_ge (tgt := 91) (pc := 73) C dX9_rest_73 (by decide) (fun h_73 => ?_) (fun h_73 => ?_)
    · exact hq M1 hR
    · rw [hR.1.1 0 0 (by decide), hnb] at h_73
      exact absurd (nI_le (by omega) (by omega)) h_73
  | succ n ih =>
    intro b q M1 hb hR hq
    refine V_iload (pc := 67) C 4 dX9_rest_67 rfl ?_
    refine V_aload_n (pc := 69) C 0 dX9_rest_69 rfl rfl ?_
    refine get_X9_106 (pc := 70) C (wg hG (by decide) (by decide)) dX9_rest_70 ?_
    refine V_icmp_ge (tgt := 91) (pc := 73) C dX9_rest_73 (by decide) (fun h_73 => ?_) (fun h_73 => ?_)
    · rw [hR.1.1 0 0 (by decide), hnb] at h_73
      exact absurd h_73 (nI_ge (by omega) (by omega))
    · refine V_iload_n (pc := 76) C 2 dX9_rest_76 rfl rfl ?_
      refine V_aload_n (pc := 77) C 0 dX9_rest_77 rfl rfl ?_
      refine V_iload (pc := 78) C 4 dX9_rest_78 rfl ?_
      refine call_X9_296 (pc := 80) C (c_X9_takesBetterFee (d := d - 1) hG (by omega) M hP (b := b) (by omega) hR) (by omega) (wg hG (by decide) (by decide)) (Nat.le_of_ble_eq_true rfl) dX9_rest_80 (fun x_80 M_80 h_80 => ?_)
      obtain ⟨hR2, e_80⟩ := h_80
      rw [e_80]
      refine V_ior (pc := 83) C dX9_rest_83 ?_
      rw [bI_or _ _ (q.2 || !(sFee M nb nt r e1 e2 q.1 b == q.1 b)) (by simp)]
      refine Vs_istore_n (lv' := [(0, _), (1, _), (2, _), (3, _), (4, _)]) (pc := 84) C dX9_rest_84 rfl (by decide) rfl rfl ?_
      refine Vs_iinc (v := nI (b + 1)) (lv' := [(0, _), (1, _), (2, _), (3, _), (4, _)]) (pc := 85) C 4 dX9_rest_85 rfl (by decide) rfl (nI_i1 (b)) rfl ?_
      refine V_goto (tgt := 67) (pc := 88) C dX9_rest_88 (by decide) ?_
      exact ih (b + 1) (upd q.1 b (sFee M nb nt r e1 e2 q.1 b), q.2 || !(sFee M nb nt r e1 e2 q.1 b == q.1 b)) _ (by omega) hR2 hq
theorem lp_X9_rest {p : Program} {e : Env} {s : State} {m : MethodId} {args : Array Value} {below : List Frame} {meth : Method} {c : Code} (C : CX p s m args c cX9_rest 5 "CostsAge" D cy ad G (wA ad G) (Rm d) d 0 0) (hr : meth.sig.returnType = (some .int)) (hlk : meth.locks = false) (hG : 30 ≤ G) (hd : 7 ≤ d) (M : wS) {nb nt r e1 e2 e3 k : Nat} (hP : IP M nb nt r e1 e2 e3) (hk : k < nb) (Qf : Int32 → wS → Prop) : ∀ (n rd : Nat) (q : (Nat → Int32) × Bool) (M1 : wS), rd + n = 4 → rOK M M1 nb nt r e1 e2 q.1 → (∀ M', Scr M M' → Qf (sRest M nb nt r e1 e2 n q k) M') → V p l e (Rm d) s m args below meth c 5 D cy ad G (wA ad G) 0 0 (MQ below (wQ D cy ad G (rI Qf)) args s 0 0 (wA ad G)) 53 [(0, .ref (ad 0 0)), (1, .int (nI k)), (2, .int (bI (q.2 = true))), (3, .int (nI rd))] [] M1 := by
  obtain ⟨⟨hnb, hn7⟩, -⟩ := id hP
  intro n
  induction n with
  | zero =>
    intro rd q M1 hn hR hq
    have hi2 : nI 4 ≤ nI rd := nI_le (by omega) (by omega)
    refine V_iload_n (pc := 53) C 3 dX9_rest_53 rfl rfl ?_
    refine V_iconst (v := 4) (pc := 54) C dX9_rest_54 (by decide) ?_
    refine V_icmp_ge (tgt := 97) (pc := 55) C dX9_rest_55 (by decide) (fun h_55 => ?_) (fun h_55 => ?_)
    · refine V_aload_n (pc := 97) C 0 dX9_rest_97 rfl rfl ?_
      refine get_X9_57 (pc := 98) C (wg hG (by decide) (by decide)) dX9_rest_98 ?_
      refine get_X9_293 (pc := 101) C (wg hG (by decide) (by decide)) dX9_rest_101 ?_
      refine V_iload_n (pc := 104) C 1 dX9_rest_104 rfl rfl ?_
      refine V_iald (pc := 105) C (k) rfl (by omega) (Nat.le_of_ble_eq_true rfl) (wg hG (by decide) (by decide)) wF_24 dX9_rest_105 ?_
      refine V_iret (pc := 106) C hr hlk dX9_rest_106 ⟨_, rfl, ?_⟩
      rw [hR.2.1 k hk]
      exact hq M1 hR.scr
    · exact absurd hi2 h_55
  | succ n ih =>
    intro rd q M1 hn hR hq
    have hi2 : ¬ nI 4 ≤ nI rd := nI_ge (by omega) (by omega)
    have hq2 : ∀ M', Scr M M' → Qf ((if q.2 = true then sRest M nb nt r e1 e2 n (sRound M nb nt r e1 e2 0 nb (q.1, false)) else q.1) k) M' := hq
    refine V_iload_n (pc := 53) C 3 dX9_rest_53 rfl rfl ?_
    refine V_iconst (v := 4) (pc := 54) C dX9_rest_54 (by decide) ?_
    refine V_icmp_ge (tgt := 97) (pc := 55) C dX9_rest_55 (by decide) (fun h_55 => ?_) (fun h_55 => ?_)
    · exact absurd h_55 hi2
    · refine V_iload_n (pc := 58) C 2 dX9_rest_58 rfl rfl ?_
      refine V_if_eq (tgt := 97) (pc := 59) C dX9_rest_59 (by decide) (fun h_59 => ?_) (fun h_59 => ?_)
      · have h_59 := bJ_0.mp h_59
        refine V_aload_n (pc := 97) C 0 dX9_rest_97 rfl rfl ?_
        refine get_X9_57 (pc := 98) C (wg hG (by decide) (by decide)) dX9_rest_98 ?_
        refine get_X9_293 (pc := 101) C (wg hG (by decide) (by decide)) dX9_rest_101 ?_
        refine V_iload_n (pc := 104) C 1 dX9_rest_104 rfl rfl ?_
        refine V_iald (pc := 105) C (k) rfl (by omega) (Nat.le_of_ble_eq_true rfl) (wg hG (by decide) (by decide)) wF_24 dX9_rest_105 ?_
        refine V_iret (pc := 106) C hr hlk dX9_rest_106 ⟨_, rfl, ?_⟩
        rw [hR.2.1 k hk]
        rw [if_neg h_59] at hq2
        exact hq2 M1 hR.scr
      · have h_59 := bJ_1.mp h_59
        refine V_iconst (v := 0) (pc := 62) C dX9_rest_62 (by decide) ?_
        refine Vs_istore_n (lv' := [(0, _), (1, _), (2, _), (3, _)]) (pc := 63) C dX9_rest_63 rfl (by decide) rfl rfl ?_
        refine V_iconst (v := 0) (pc := 64) C dX9_rest_64 (by decide) ?_
        refine Vs_istore (lv' := [(0, _), (1, _), (2, _), (3, _), (4, _)]) (pc := 65) C dX9_rest_65 (by decide) rfl rfl ?_
        rw [if_pos h_59] at hq2
        refine lq_X9_rest C hr hlk hG hd M hP _ _ _ nb 0 (q.1, false) M1 (by omega) hR ?_
        intro M2 hR2
        refine Vs_iinc (v := nI (rd + 1)) (lv' := [(0, _), (1, _), (2, _), (3, _), (4, _)]) (pc := 91) C 3 dX9_rest_91 rfl (by decide) rfl (nI_i1 (rd)) rfl ?_
        refine V_goto (tgt := 53) (pc := 94) C dX9_rest_94 (by decide) ?_
        refine V_loc (lv' := [(0, _), (1, _), (2, _), (3, _)]) [0, 1, 2, 3] rfl ?_
        exact ih (rd + 1) _ M2 (by omega) hR2 hq2
theorem l0_X9_rest {p : Program} {e : Env} {s : State} {m : MethodId} {args : Array Value} {below : List Frame} {meth : Method} {c : Code} (C : CX p s m args c cX9_rest 5 "CostsAge" D cy ad G (wA ad G) (Rm d) d 0 0) (hr : meth.sig.returnType = (some .int)) (hlk : meth.locks = false) (hG : 30 ≤ G) (M : wS) {nb : Nat} (hnb : M.1 0 0 11 = nI nb) (hn7 : nb ≤ 7) (by_ : Int32) (Qf : Int32 → wS → Prop) : ∀ (n b : Nat) (M1 : wS), b + n = nb → Fr [24] M M1 → (∀ c2, c2 < b → M1.1 24 0 c2 = M.1 28 0 c2) → (∀ M', Fr [24] M M' → (∀ c2, c2 < nb → M'.1 24 0 c2 = M.1 28 0 c2) → V p l e (Rm d) s m args below meth c 5 D cy ad G (wA ad G) 0 0 (MQ below (wQ D cy ad G (rI Qf)) args s 0 0 (wA ad G)) 49 [(0, .ref (ad 0 0)), (1, .int by_), (2, .int (nI nb))] [] M') → V p l e (Rm d) s m args below meth c 5 D cy ad G (wA ad G) 0 0 (MQ below (wQ D cy ad G (rI Qf)) args s 0 0 (wA ad G)) 17 [(0, .ref (ad 0 0)), (1, .int by_), (2, .int (nI b))] [] M1 := by
  intro n
  induction n with
  | zero =>
    intro b M1 hb hF hA hq
    obtain rfl : b = nb := by omega
    refine V_iload_n (pc := 17) C 2 dX9_rest_17 rfl rfl ?_
    refine V_aload_n (pc := 18) C 0 dX9_rest_18 rfl rfl ?_
    refine get_X9_106 (pc := 19) C (wg hG (by decide) (by decide)) dX9_rest_19 ?_
    refine V_icmp_ge (tgt := 49) (pc := 22) C dX9_rest_22 (by decide) (fun h_22 => ?_) (fun h_22 => ?_)
    · exact hq M1 hF hA
    · rw [hF.1 0 0 (by decide), hnb] at h_22
      exact absurd (nI_le (by omega) (by omega)) h_22
  | succ n ih =>
    intro b M1 hb hF hA hq
    refine V_iload_n (pc := 17) C 2 dX9_rest_17 rfl rfl ?_
    refine V_aload_n (pc := 18) C 0 dX9_rest_18 rfl rfl ?_
    refine get_X9_106 (pc := 19) C (wg hG (by decide) (by decide)) dX9_rest_19 ?_
    refine V_icmp_ge (tgt := 49) (pc := 22) C dX9_rest_22 (by decide) (fun h_22 => ?_) (fun h_22 => ?_)
    · rw [hF.1 0 0 (by decide), hnb] at h_22
      exact absurd h_22 (nI_ge (by omega) (by omega))
    · refine V_aload_n (pc := 25) C 0 dX9_rest_25 rfl rfl ?_
      refine get_X9_57 (pc := 26) C (wg hG (by decide) (by decide)) dX9_rest_26 ?_
      refine get_X9_293 (pc := 29) C (wg hG (by decide) (by decide)) dX9_rest_29 ?_
      refine V_iload_n (pc := 32) C 2 dX9_rest_32 rfl rfl ?_
      refine V_aload_n (pc := 33) C 0 dX9_rest_33 rfl rfl ?_
      refine get_X9_64 (pc := 34) C (wg hG (by decide) (by decide)) dX9_rest_34 ?_
      refine get_X9_122 (pc := 37) C (wg hG (by decide) (by decide)) dX9_rest_37 ?_
      refine V_iload_n (pc := 40) C 2 dX9_rest_40 rfl rfl ?_
      refine V_iald (pc := 41) C (b) rfl (by omega) (Nat.le_of_ble_eq_true rfl) (wg hG (by decide) (by decide)) wF_28 dX9_rest_41 ?_
      refine V_iast (pc := 42) C (b) rfl (by omega) (Nat.le_of_ble_eq_true rfl) (wg hG (by decide) (by decide)) (fun _ => wF_24) dX9_rest_42 ?_
      refine Vs_iinc (v := nI (b + 1)) (lv' := [(0, _), (1, _), (2, _)]) (pc := 43) C 2 dX9_rest_43 rfl (by decide) rfl (nI_i1 (b)) rfl ?_
      refine V_goto (tgt := 17) (pc := 46) C dX9_rest_46 (by decide) ?_
      refine ih (b + 1) _ (by omega) (hF.tr ⟨fun g i hg => ?_, rfl⟩) (fun c2 h => ?_) hq
      · funext k
        rw [mset_at, if_neg (fun z => hg (by simp [z.1]))]
      · rw [mset_at]
        by_cases e9 : c2 = b
        · rw [if_pos ⟨rfl, rfl, e9⟩, e9, hF.1 28 0 (by decide)]
        · rw [if_neg (fun z => e9 z.2.2)]
          exact hA c2 (by omega)
theorem c_X9_rest (hG : 30 ≤ G) (hd : 7 ≤ d) (M : wS) {nb nt r e1 e2 e3 : Nat} (hP : IP M nb nt r e1 e2 e3) (buyer : Int32) : Ctr l D cy ad G d yX9_rest cX9_rest 5 (some .int) [.ref (ad 0 0), .int buyer] M (rI fun x M' => Scr M M' ∧ ((0 ≤ buyer ∧ buyer < nI nb) → x = sRest M nb nt r e1 e2 4 (M.1 28 0, true) buyer.toNatClampNeg) ∧ (¬ (0 ≤ buyer ∧ buyer < nI nb) → x = -2)) := by
  obtain ⟨⟨hnb, hn7⟩, ⟨hnt, ht7⟩, -⟩ := id hP
  refine Ctr.of (lv0 := [(0, _), (1, _)]) (by decide) (Nat.le_of_ble_eq_true rfl) rfl ?_
  intro p e s m args below meth c C hr hlk _
  have C : CX p s m args c cX9_rest 5 "CostsAge" D cy ad G (wA ad G) (Rm d) d 0 0 := C
  refine V_aload_n (pc := 0) C 0 dX9_rest_0 rfl rfl ?_
  refine V_iload_n (pc := 1) C 1 dX9_rest_1 rfl rfl ?_
  refine call_X9_136 (pc := 2) C (c_X9_isBuyer (d := d - 1) hG M _) (by omega) (wg hG (by decide) (by decide)) (Nat.le_of_ble_eq_true rfl) dX9_rest_2 (fun x_2 M_2 h_2 => ?_)
  obtain ⟨e_2, rfl⟩ := h_2
  have e_2 := e_2.symm
  subst e_2
  refine V_if_ne (tgt := 11) (pc := 5) C dX9_rest_5 (by decide) (fun h_5 => ?_) (fun h_5 => ?_)
  · have h_5 := bJ_1.mp h_5
    rw [hnb] at h_5
    obtain ⟨k, hk, rfl⟩ := ix_of h_5.1 h_5.2 (by omega)
    have ek : (nI k).toNatClampNeg = k := nI_clamp (by omega)
    refine V_aload_n (pc := 11) C 0 dX9_rest_11 rfl rfl ?_
    refine call_X9_262 (pc := 12) C (c_X9_fillCosts (d := d - 1) hG (by omega) M hP) (by omega) (wg hG (by decide) (by decide)) (Nat.le_of_ble_eq_true rfl) dX9_rest_12 (fun M_12 h_12 => ?_)
    obtain ⟨hF, hA⟩ := h_12
    refine V_iconst (v := 0) (pc := 15) C dX9_rest_15 (by decide) ?_
    refine Vs_istore_n (lv' := [(0, _), (1, _), (2, _)]) (pc := 16) C dX9_rest_16 rfl (by decide) rfl rfl ?_
    refine l0_X9_rest C hr hlk hG M_12 (by rw [hF.1 0 0 (by decide)]; exact hnb) hn7 _ _ nb 0 M_12 (by omega) Fr.rf (fun c2 h => by omega) ?_
    intro M2 hF2 hA2
    refine V_iconst (v := 1) (pc := 49) C dX9_rest_49 (by decide) ?_
    refine Vs_istore_n (lv' := [(0, _), (1, _), (2, _)]) (pc := 50) C dX9_rest_50 rfl (by decide) rfl rfl ?_
    refine V_iconst (v := 0) (pc := 51) C dX9_rest_51 (by decide) ?_
    refine Vs_istore_n (lv' := [(0, _), (1, _), (2, _), (3, _)]) (pc := 52) C dX9_rest_52 rfl (by decide) rfl rfl ?_
    refine lp_X9_rest C hr hlk hG hd M hP hk _ 4 0 (M.1 28 0, true) M2 (by omega) ⟨?_, ?_, ?_⟩ ?_
    · exact (hF.sub (by decide)).tr (hF2.sub (by decide))
    · intro c2 hc2
      rw [hA2 c2 hc2, hF.1 28 0 (by decide)]
    · intro c2 t2 hc2 ht2
      rw [hF2.1 23 0 (by decide)]
      exact hA c2 t2 hc2 ht2
    · intro M3 hS3
      exact ⟨hS3, fun _ => by rw [ek], fun z => absurd h_5 z⟩
  · have h_5 := bJ_0.mp h_5
    rw [hnb] at h_5
    refine V_bipush (v := -2) (pc := 8) C dX9_rest_8 (by decide) ?_
    refine V_iret (pc := 10) C hr hlk dX9_rest_10 ⟨_, rfl, ?_⟩
    exact ⟨Scr.rf, fun z => absurd z h_5, fun _ => rfl⟩
end S32
