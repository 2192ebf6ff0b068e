/-! what is faulty stays as it is -/
def badp {α : Type} (H : rS → rS × α) : Prop := ∀ q, q.2.2.1 = -1 → ¬ q.2.2.2.2 = -1 → (H q).1.2.2.1 = -1 ∧ (H q).1.2.2.2.2 = q.2.2.2.2
theorem rf_bad {q : rS} (h : ¬ q.2.2.2.2 = -1) : (rfQ q).2.2.1 = -1 ∧ (rfQ q).2.2.2.2 = q.2.2.2.2 := ⟨rfl, if_neg h⟩
theorem bad_loop {α : Type} {f : Nat → Int32} {z : Nat} {A : gA α} {isOp : Int32 → Bool} {cd : Int32 → Int32} (hop : ∀ v, isOp v = true → 0 < v ∧ -15 ≤ cd v ∧ cd v ≤ -9) {F : rS → rS × α} (h : badp F) : badp (fun q => gLoop f z A isOp cd F 160 (F q)) := by
  intro q h1 h2
  have h3 := h q h1 h2
  simp only []
  rw [gLoop_n (n := 159) (fun e => by
    have := (hop _ e).1
    rw [h3.1] at this
    exact absurd this (by decide))]
  exact h3
theorem bad_one {α : Type} {f : Nat → Int32} {z : Nat} {A : gA α} {ok : Bool} {ro re : rS → rS × α} : badp (gOneF f z A ok ro re) := by
  intro q h1 h2
  unfold gOneF
  rw [h1, if_neg m1_n, if_neg (by decide), if_neg (by decide)]
  exact rf_bad h2
theorem bad_not {α : Type} {f : Nat → Int32} {z : Nat} {A : gA α} {ok : Bool} {rn one : rS → rS × α} (h : badp one) : badp (gNotF f z A ok rn one) := by
  intro q h1 h2
  unfold gNotF
  rw [if_neg (by rw [h1]; decide)]
  have h3 : badp (gTerm f z A one) := bad_loop op42_r h
  have h4 : badp (gSum f z A one) := bad_loop opPM_r h3
  have h5 := h4 q h1 h2
  unfold gCmp2
  rw [if_neg (by rw [h5.1]; decide)]
  exact h5
theorem bad_lev {α : Type} {f : Nat → Int32} {z : Nat} {A : gA α} (k : Nat) : badp (gLev f z A k).2 := by
  cases k with
  | zero =>
    unfold gLev
    exact bad_not bad_one
  | succ k =>
    unfold gLev
    exact bad_not bad_one
theorem bad_part {α : Type} {f : Nat → Int32} {z : Nat} {A : gA α} {key : Int32} (hk : ¬ key = -1) : badp (gPart f z A key) := by
  have h3 : badp (gAnd f z A (gLev f z A 5).2) := bad_loop op7_r (bad_lev 5)
  have h4 : badp (gE f z A (gLev f z A 5).2) := bad_loop op6_r h3
  intro q h1 h2
  unfold gPart
  generalize gE f z A (gLev f z A 5).2 = H at h4 ⊢
  have e1 : exQ f z key q = rfQ q := by rw [exQ, if_neg (fun e => hk (e.symm.trans h1))]
  have b1 := rf_bad h2
  have h5 := h4 (rfQ q) b1.1 (by rw [b1.2]; exact h2)
  rw [e1]
  have e2 : exQ f z 59 (H (rfQ q)).1 = rfQ (H (rfQ q)).1 := by rw [exQ, if_neg (fun e => absurd (h5.1.symm.trans e) (by decide))]
  simp only []
  rw [e2]
  have h6 : ¬ (H (rfQ q)).1.2.2.2.2 = -1 := by rw [h5.2, b1.2]; exact h2
  have b2 := rf_bad h6
  exact ⟨b2.1, by rw [b2.2, h5.2, b1.2]⟩
section S55
variable {l : Launch} {D : va_G} {cy : Nat → ClassId} {ad : Nat → Nat → Nat} {G d : Nat}
def RPt (l : Launch) (D : va_G) (cy : Nat → ClassId) (ad : Nat → Nat → Nat) (G d : Nat) (F z : Nat) (f e : Nat → Int32) (P : Int32 → rS → rS × Int32) : Prop :=
  ∀ (key : Int32) (M : wS) (q : rS), ¬ key = -1 → rB M F z f e → rfS M f z q → q.2.2.2.2 = -1 → pok z q → M.1 30 0 34 = nI 0 → Ctr l D cy ad G d yX10_part cX10_part 3 (some .int) [.ref (ad 30 0), .int (bP (q.2.2.1 = key))] M (rI fun x M' => frR M M' ∧ M'.1 30 0 34 = nI 0 ∧ rfS M' f z (P key q).1 ∧ ((P key q).1.2.2.2.2 = -1 → x = (P key q).2))
theorem rfS.ofbad {M : wS} {f : Nat → Int32} {z : Nat} {q q2 : rS} (h : rfS M f z q) (hb : ¬ q.2.2.2.2 = -1) (h1 : q2.2.2.1 = -1) (h2 : q2.2.2.2.2 = q.2.2.2.2) : rfS M f z q2 := by
  rcases h with ⟨a1, _⟩ | ⟨a1, a2, a3, a4⟩
  · exact absurd a1 hb
  · exact Or.inr ⟨by rw [h2]; exact a1, h1, a3, by rw [h2]; exact a4⟩
theorem rv_part (hG : 56 ≤ G) (hd : 40 ≤ d) {F z : Nat} (hz : z ≤ 160) (f e0 : Nat → Int32) : RPt l D cy ad G d F z f e0 (gPart f z (vA e0)) := by
  intro key M q hk hB hR hnb hp ho
  have hE := rv_E5 (l := l) (D := D) (cy := cy) (ad := ad) (G := G) (d := d - 1) (F := F) hG hz f e0 (by omega)
  have hb := bad_part (f := f) (z := z) (A := vA e0) hk
  have hb4 : badp (gE f z (vA e0) (gLev f z (vA e0) 5).2) := bad_loop op6_r (bad_loop op7_r (bad_lev 5))
  have hgm : mono z (gE f z (vA e0) (gLev f z (vA e0) 5).2) := gm_mono (gm_E (vv_ok e0) (gm_lev2 hz e0 5).2)
  clear hb
  unfold gPart
  generalize gE f z (vA e0) (gLev f z (vA e0) 5).2 = H at hE hb4 hgm ⊢
  have hbad : M.1 30 0 35 = 0 := hR.bad.mpr hnb
  have hrf := (rf_ok hz hp).2
  refine Ctr.of (lv0 := [(0, _), (1, _)]) (by decide) (Nat.le_of_ble_eq_true rfl) rfl ?_
  intro p e s m args below meth c C hr hlk _
  have C : CX p s m args c cX10_part 3 "CostsAgeModel" D cy ad G (wA ad G) (Rm d) d 0 0 := C
  refine V_iload_n (pc := 0) C 1 dX10_part_0 rfl rfl ?_
  refine V_if_ne (tgt := 8) (pc := 1) C dX10_part_1 (by decide) (fun h_1 => ?_) (fun h_1 => ?_)
  · have h_1 := bJ_1.mp h_1
    have hm1 : ¬ q.2.2.1 = -1 := fun e => hk (h_1.symm.trans e)
    have e1 : exQ f z key q = nxQ f z q := by rw [exQ, if_pos h_1]
    have hn := nx_ok f hp
    have hs := hgm _ hn.1
    rw [e1]
    refine V_aload_n (pc := 8) C 0 dX10_part_8 rfl rfl ?_
    refine get_X10_187 (pc := 9) C (wg hG (by decide) (by decide)) dX10_part_9 ?_
    refine V_if_ne (tgt := 19) (pc := 12) C dX10_part_12 (by decide) (fun h_12 => ?_) (fun h_12 => ?_)
    · exact absurd hbad h_12
    · refine V_aload_n (pc := 15) C 0 dX10_part_15 rfl rfl ?_
      refine call_X10_204 (pc := 16) C (r_next (d := d - 1) hG (by omega) hB.1 hR hnb hm1) (by omega) (wg hG (by decide) (by decide)) (Nat.le_of_ble_eq_true rfl) dX10_part_16 (fun M_16 h_16 => ?_)
      obtain ⟨f1, f2, f3⟩ := h_16
      refine V_aload_n (pc := 19) C 0 dX10_part_19 rfl rfl ?_
      refine get_X10_187 (pc := 20) C (wg hG (by decide) (by decide)) dX10_part_20 ?_
      refine V_if_eq (tgt := 30) (pc := 23) C dX10_part_23 (by decide) (fun h_23 => ?_) (fun h_23 => ?_)
      · refine V_aload_n (pc := 30) C 0 dX10_part_30 rfl rfl ?_
        refine call_X10_240 (pc := 31) C (hE _ _ (hB.rr f1) f3 hnb hn.1 (f2.trans ho)) (by omega) (wg hG (by decide) (by decide)) (Nat.le_of_ble_eq_true rfl) dX10_part_31 (fun x_31 M_31 h_31 => ?_)
        obtain ⟨g1, g2, g3, g4⟩ := h_31
        refine Vs_istore_n (lv' := [(0, _), (1, _), (2, _)]) (pc := 34) C dX10_part_34 rfl (by decide) rfl rfl ?_
        refine V_aload_n (pc := 35) C 0 dX10_part_35 rfl rfl ?_
        refine V_bipush (v := 59) (pc := 36) C dX10_part_36 (by decide) ?_
        refine call_X10_229 (pc := 38) C (r_sign (d := d - 1) hG ((hB.rr f1).rr g1).1 g3 (v := 59) rfl) (by omega) (wg hG (by decide) (by decide)) (Nat.le_of_ble_eq_true rfl) dX10_part_38 (fun x_38 M_38 h_38 => ?_)
        obtain ⟨e_38, rfl⟩ := h_38
        have e_38 := e_38.symm
        subst e_38
        refine V_if_ne (tgt := 48) (pc := 41) C dX10_part_41 (by decide) (fun h_41 => ?_) (fun h_41 => ?_)
        · have h_41 := bJ_1.mp h_41
          have hm2 : ¬ (H (nxQ f z q)).1.2.2.1 = -1 := fun e => absurd (h_41.symm.trans e) (by decide)
          have hb2 := g3.nb hm2
          refine V_aload_n (pc := 48) C 0 dX10_part_48 rfl rfl ?_
          refine get_X10_187 (pc := 49) C (wg hG (by decide) (by decide)) dX10_part_49 ?_
          refine V_if_ne (tgt := 59) (pc := 52) C dX10_part_52 (by decide) (fun h_52 => ?_) (fun h_52 => ?_)
          · exact absurd (g3.bad.mpr hb2) h_52
          · refine V_aload_n (pc := 55) C 0 dX10_part_55 rfl rfl ?_
            refine call_X10_204 (pc := 56) C (r_next (d := d - 1) hG (by omega) ((hB.rr f1).rr g1).1 g3 hb2 hm2) (by omega) (wg hG (by decide) (by decide)) (Nat.le_of_ble_eq_true rfl) dX10_part_56 (fun M_56 h_56 => ?_)
            obtain ⟨m1, m2, m3⟩ := h_56
            refine V_iload_n (pc := 59) C 2 dX10_part_59 rfl rfl ?_
            refine V_iret (pc := 60) C hr hlk dX10_part_60 ⟨_, rfl, ?_⟩
            have e2 : exQ f z 59 (H (nxQ f z q)).1 = nxQ f z (H (nxQ f z q)).1 := by rw [exQ, if_pos h_41]
            simp only []
            rw [e2]
            exact ⟨(f1.tr g1).tr m1, m2.trans g2, m3, fun _ => g4 hb2⟩
        · have h_41 := bJ_0.mp h_41
          refine V_aload_n (pc := 44) C 0 dX10_part_44 rfl rfl ?_
          refine call_X10_201 (pc := 45) C (r_fail (d := d - 1) hG ((hB.rr f1).rr g1).1 g3) (by omega) (wg hG (by decide) (by decide)) (Nat.le_of_ble_eq_true rfl) dX10_part_45 (fun M_45 h_45 => ?_)
          obtain ⟨k1, k2, k3⟩ := h_45
          refine V_aload_n (pc := 48) C 0 dX10_part_48 rfl rfl ?_
          refine get_X10_187 (pc := 49) C (wg hG (by decide) (by decide)) dX10_part_49 ?_
          refine V_if_ne (tgt := 59) (pc := 52) C dX10_part_52 (by decide) (fun h_52 => ?_) (fun h_52 => ?_)
          · refine V_iload_n (pc := 59) C 2 dX10_part_59 rfl rfl ?_
            refine V_iret (pc := 60) C hr hlk dX10_part_60 ⟨_, rfl, ?_⟩
            have e2 : exQ f z 59 (H (nxQ f z q)).1 = rfQ (H (nxQ f z q)).1 := by rw [exQ, if_neg h_41]
            simp only []
            rw [e2]
            exact ⟨(f1.tr g1).tr k1, k2.trans g2, k3, fun e => absurd e (rf_ok hz hs.1).2⟩
          · exact absurd (k3.bad.mp h_52) (rf_ok hz hs.1).2
      · exact absurd (f3.bad.mpr hnb) h_23
  · have h_1 := bJ_0.mp h_1
    have e1 : exQ f z key q = rfQ q := by rw [exQ, if_neg h_1]
    have hB2 := hb4 (rfQ q) rfl hrf
    rw [e1]
    refine V_aload_n (pc := 4) C 0 dX10_part_4 rfl rfl ?_
    refine call_X10_201 (pc := 5) C (r_fail (d := d - 1) hG hB.1 hR) (by omega) (wg hG (by decide) (by decide)) (Nat.le_of_ble_eq_true rfl) dX10_part_5 (fun M_5 h_5 => ?_)
    obtain ⟨f1, f2, f3⟩ := h_5
    refine V_aload_n (pc := 8) C 0 dX10_part_8 rfl rfl ?_
    refine get_X10_187 (pc := 9) C (wg hG (by decide) (by decide)) dX10_part_9 ?_
    refine V_if_ne (tgt := 19) (pc := 12) C dX10_part_12 (by decide) (fun h_12 => ?_) (fun h_12 => ?_)
    · refine V_aload_n (pc := 19) C 0 dX10_part_19 rfl rfl ?_
      refine get_X10_187 (pc := 20) C (wg hG (by decide) (by decide)) dX10_part_20 ?_
      refine V_if_eq (tgt := 30) (pc := 23) C dX10_part_23 (by decide) (fun h_23 => ?_) (fun h_23 => ?_)
      · exact absurd (f3.bad.mp h_23) hrf
      · refine V_iconst (v := 0) (pc := 26) C dX10_part_26 (by decide) ?_
        refine V_goto (tgt := 34) (pc := 27) C dX10_part_27 (by decide) ?_
        refine Vs_istore_n (lv' := [(0, _), (1, _), (2, _)]) (pc := 34) C dX10_part_34 rfl (by decide) rfl rfl ?_
        refine V_aload_n (pc := 35) C 0 dX10_part_35 rfl rfl ?_
        refine V_bipush (v := 59) (pc := 36) C dX10_part_36 (by decide) ?_
        refine call_X10_229 (pc := 38) C (r_sign (d := d - 1) hG (hB.rr f1).1 f3 (v := 59) rfl) (by omega) (wg hG (by decide) (by decide)) (Nat.le_of_ble_eq_true rfl) dX10_part_38 (fun x_38 M_38 h_38 => ?_)
        obtain ⟨e_38, rfl⟩ := h_38
        have e_38 := e_38.symm
        subst e_38
        refine V_if_ne (tgt := 48) (pc := 41) C dX10_part_41 (by decide) (fun h_41 => ?_) (fun h_41 => ?_)
        · have h_41 := bJ_1.mp h_41
          exact absurd (show (-1 : Int32) = 59 from h_41) (by decide)
        · have h_41 := bJ_0.mp h_41
          refine V_aload_n (pc := 44) C 0 dX10_part_44 rfl rfl ?_
          refine call_X10_201 (pc := 45) C (r_fail (d := d - 1) hG (hB.rr f1).1 f3) (by omega) (wg hG (by decide) (by decide)) (Nat.le_of_ble_eq_true rfl) dX10_part_45 (fun M_45 h_45 => ?_)
          obtain ⟨k1, k2, k3⟩ := h_45
          refine V_aload_n (pc := 48) C 0 dX10_part_48 rfl rfl ?_
          refine get_X10_187 (pc := 49) C (wg hG (by decide) (by decide)) dX10_part_49 ?_
          refine V_if_ne (tgt := 59) (pc := 52) C dX10_part_52 (by decide) (fun h_52 => ?_) (fun h_52 => ?_)
          · refine V_iload_n (pc := 59) C 2 dX10_part_59 rfl rfl ?_
            refine V_iret (pc := 60) C hr hlk dX10_part_60 ⟨_, rfl, ?_⟩
            have e2 : exQ f z 59 (H (rfQ q)).1 = rfQ (H (rfQ q)).1 := by rw [exQ, if_neg (fun e => absurd (hB2.1.symm.trans e) (by decide))]
            simp only []
            rw [e2]
            have e3 : ¬ (H (rfQ q)).1.2.2.2.2 = -1 := by rw [hB2.2]; exact hrf
            have e4 : ¬ (rfQ (rfQ q)).2.2.2.2 = -1 := by rw [(rf_bad hrf).2]; exact hrf
            exact ⟨f1.tr k1, (k2.trans f2).trans ho, k3.ofbad e4 rfl (by rw [(rf_bad e3).2, hB2.2, (rf_bad hrf).2]), fun e => absurd e (by rw [(rf_bad e3).2]; exact e3)⟩
          · exact absurd (k3.bad.mp h_52) (by rw [(rf_bad hrf).2]; exact hrf)
    · exact absurd (f3.bad.mp h_12) hrf
/-- the reference has read -/
def frX (M M' : wS) : Prop := (∀ g i, g ≠ 30 → M'.1 g i = M.1 g i) ∧ ∀ k, k < 28 ∨ 36 < k → M'.1 30 0 k = M.1 30 0 k
theorem frR.x {M M' : wS} (h : frR M M') : frX M M' := ⟨h.1, fun k a => h.2 k (by omega)⟩
theorem frX.tr {M M1 M2 : wS} (h : frX M M1) (h2 : frX M1 M2) : frX M M2 := ⟨fun g i a => (h2.1 g i a).trans (h.1 g i a), fun k a => (h2.2 k a).trans (h.2 k a)⟩
theorem frX.set {M : wS} {k : Nat} (x : Int32) (hk : 28 ≤ k ∧ k ≤ 36) : frX M (mset M 30 0 k x) := by
  refine ⟨fun g i h => ?_, fun j a => ?_⟩
  · funext j
    rw [mset_at, if_neg (fun e => h e.1)]
  · rw [mset_at, if_neg (fun e => by omega)]
def rdQ (FL : Int32) (x v1 v2 v3 w : Int32) (M' : wS) : Prop := (M'.1 30 0 35 = 0 ↔ FL = -1) ∧ (¬ FL = -1 → M'.1 30 0 36 = FL) ∧ (FL = -1 → x = if w = 0 then v1 else if w = 1 then v2 else v3)
theorem tok_end {M : wS} {f : Nat → Int32} {z : Nat} {q : rS} (h : rfS M f z q) (hn : q.2.2.2.2 = -1) : M.1 30 0 31 = 0 ↔ q.2.2.1 = 0 := by
  rcases h with ⟨a1, a2, a3, a4⟩ | ⟨b, _⟩
  · rw [a3.2.1]
    have e : (lxP f z q.2.1).2.2.1 = q.2.2.1 := by rw [a4]
    rw [← e]
    unfold kdF lxP
    by_cases c1 : z ≤ q.2.1
    · rw [if_pos c1, if_pos c1]
    · rw [if_neg c1, if_neg c1]
      by_cases c2 : 97 ≤ f q.2.1 ∧ f q.2.1 ≤ 122
      · rw [if_pos c2, if_pos c2]
        refine ⟨fun e => absurd e (by decide), fun e => ?_⟩
        unfold lxW at e
        by_cases c3 : nmOf f q.2.1 (lxWd f (z - q.2.1) q.2.1) = -1
        · rw [if_pos c3] at e
          have e2 : kwOf f q.2.1 (lxWd f (z - q.2.1) q.2.1) = 0 := e
          rcases kw_val f q.2.1 (lxWd f (z - q.2.1) q.2.1) with h | h | h | h | h | h | h <;> rw [h] at e2 <;> exact absurd e2 (by decide)
        · rw [if_neg c3] at e
          exact absurd (show (2 : Int32) = 0 from e) (by decide)
      · rw [if_neg c2, if_neg c2]
        by_cases c3 : 48 ≤ f q.2.1 ∧ f q.2.1 ≤ 57
        · rw [if_pos c3, if_pos c3]
          unfold lxD
          by_cases c4 : lxDg f (z - q.2.1) q.2.1 - q.2.1 ≤ 4
          · rw [if_pos c4, if_pos c4]
            exact ⟨fun e => absurd e (by decide), fun e => absurd (show (1 : Int32) = 0 from e) (by decide)⟩
          · rw [if_neg c4, if_neg c4]
            exact ⟨fun e => absurd e (by decide), fun e => absurd (show (-1 : Int32) = 0 from e) (by decide)⟩
        · rw [if_neg c3, if_neg c3]
          by_cases c5 : pSign (f q.2.1) = true
          · rw [if_pos c5]
            simp only [if_pos c5]
            refine ⟨fun e => absurd e (by decide), fun e => ?_⟩
            rw [e] at c5
            exact absurd c5 (by decide)
          · rw [if_neg c5]
            simp only [if_neg c5]
            exact ⟨fun e => absurd e (by decide), fun e => absurd e (by decide)⟩
  · exact absurd hn b
theorem l3_X10_read {p : Program} {e : Env} {s : State} {m : MethodId} {args : Array Value} {below : List Frame} {meth : Method} {c : Code} (C : CX p s m args c cX10_read 6 "CostsAgeModel" D cy ad G (wA ad G) (Rm d) d 0 0) (hr : meth.sig.returnType = (some .int)) (hlk : meth.locks = false) (hG : 56 ≤ G) (hd : 1 ≤ d) {F z : Nat} {f : Nat → Int32} {M : wS} {q : rS} (hE : rE M F z f) (hR : rfS M f z q) (hp : pok z q) (t w v1 v2 v3 : Int32) (Qf : Int32 → wS → Prop) (hQ : ∀ M' x, frR M M' → rdQ (if q.2.2.1 = 0 then q else rfQ q).2.2.2.2 x v1 v2 v3 w M' → Qf x M') : V p l e (Rm d) s m args below meth c 6 D cy ad G (wA ad G) 0 0 (MQ below (wQ D cy ad G (rI Qf)) args s 0 0 (wA ad G)) 128 [(0, .ref (ad 30 0)), (1, .int t), (2, .int w), (3, .int v1), (4, .int v2), (5, .int v3)] [] M := by
  have hz := hE.2.2.1
  have hrf := (rf_ok hz hp).2
  have fin : ∀ M' : wS, frR M M' → (M'.1 30 0 35 = 0 ↔ (if q.2.2.1 = 0 then q else rfQ q).2.2.2.2 = -1) ∧ (¬ (if q.2.2.1 = 0 then q else rfQ q).2.2.2.2 = -1 → M'.1 30 0 36 = (if q.2.2.1 = 0 then q else rfQ q).2.2.2.2) → Qf (if w = 0 then v1 else if w = 1 then v2 else v3) M' := fun M' h1 h2 => hQ M' _ h1 ⟨h2.1, h2.2, fun _ => rfl⟩
  refine V_aload_n (pc := 128) C 0 dX10_read_128 rfl rfl ?_
  refine get_X10_187 (pc := 129) C (wg hG (by decide) (by decide)) dX10_read_129 ?_
  refine V_if_ne (tgt := 146) (pc := 132) C dX10_read_132 (by decide) (fun h_132 => ?_) (fun h_132 => ?_)
  · have hb : ¬ q.2.2.2.2 = -1 := fun e => h_132 (hR.bad.mpr e)
    have ht : ¬ q.2.2.1 = 0 := fun e => hb (hR.nb (fun y => absurd (e.symm.trans y) (by decide)))
    have fin2 := fin M frR.rf (by
      rw [if_neg ht, (rf_bad hb).2]
      refine ⟨hR.bad, fun _ => ?_⟩
      rcases hR with ⟨y, _⟩ | ⟨_, _, _, y⟩
      · exact absurd y hb
      · exact y)
    refine V_iload_n (pc := 146) C 2 dX10_read_146 rfl rfl ?_
    refine V_if_ne (tgt := 154) (pc := 147) C dX10_read_147 (by decide) (fun h_147 => ?_) (fun h_147 => ?_)
    · refine V_iload_n (pc := 154) C 2 dX10_read_154 rfl rfl ?_
      refine V_iconst (v := 1) (pc := 155) C dX10_read_155 (by decide) ?_
      refine V_icmp_ne (tgt := 164) (pc := 156) C dX10_read_156 (by decide) (fun h_156 => ?_) (fun h_156 => ?_)
      · refine V_iload (pc := 164) C 5 dX10_read_164 rfl ?_
        refine V_iret (pc := 166) C hr hlk dX10_read_166 ⟨_, rfl, ?_⟩
        first | (rw [if_pos h_147] at fin2; exact fin2) | (rw [if_neg h_147, if_pos h_156] at fin2; exact fin2) | (rw [if_neg h_147, if_neg h_156] at fin2; exact fin2)
      · refine V_iload (pc := 159) C 4 dX10_read_159 rfl ?_
        refine V_goto (tgt := 166) (pc := 161) C dX10_read_161 (by decide) ?_
        refine V_iret (pc := 166) C hr hlk dX10_read_166 ⟨_, rfl, ?_⟩
        first | (rw [if_pos h_147] at fin2; exact fin2) | (rw [if_neg h_147, if_pos h_156] at fin2; exact fin2) | (rw [if_neg h_147, if_neg h_156] at fin2; exact fin2)
    · refine V_iload_n (pc := 150) C 3 dX10_read_150 rfl rfl ?_
      refine V_goto (tgt := 166) (pc := 151) C dX10_read_151 (by decide) ?_
      refine V_iret (pc := 166) C hr hlk dX10_read_166 ⟨_, rfl, ?_⟩
      first | (rw [if_pos h_147] at fin2; exact fin2) | (rw [if_neg h_147, if_pos h_156] at fin2; exact fin2) | (rw [if_neg h_147, if_neg h_156] at fin2; exact fin2)
  · have hb := hR.bad.mp h_132
    have hte := tok_end hR hb
    refine V_aload_n (pc := 135) C 0 dX10_read_135 rfl rfl ?_
    refine get_X10_172 (pc := 136) C (wg hG (by decide) (by decide)) dX10_read_136 ?_
    refine V_if_eq (tgt := 146) (pc := 139) C dX10_read_139 (by decide) (fun h_139 => ?_) (fun h_139 => ?_)
    · have ht := hte.mp h_139
      have fin2 := fin M frR.rf (by
        rw [if_pos ht]
        exact ⟨hR.bad, fun y => absurd hb y⟩)
      refine V_iload_n (pc := 146) C 2 dX10_read_146 rfl rfl ?_
      refine V_if_ne (tgt := 154) (pc := 147) C dX10_read_147 (by decide) (fun h_147 => ?_) (fun h_147 => ?_)
      · refine V_iload_n (pc := 154) C 2 dX10_read_154 rfl rfl ?_
        refine V_iconst (v := 1) (pc := 155) C dX10_read_155 (by decide) ?_
        refine V_icmp_ne (tgt := 164) (pc := 156) C dX10_read_156 (by decide) (fun h_156 => ?_) (fun h_156 => ?_)
        · refine V_iload (pc := 164) C 5 dX10_read_164 rfl ?_
          refine V_iret (pc := 166) C hr hlk dX10_read_166 ⟨_, rfl, ?_⟩
          first | (rw [if_pos h_147] at fin2; exact fin2) | (rw [if_neg h_147, if_pos h_156] at fin2; exact fin2) | (rw [if_neg h_147, if_neg h_156] at fin2; exact fin2)
        · refine V_iload (pc := 159) C 4 dX10_read_159 rfl ?_
          refine V_goto (tgt := 166) (pc := 161) C dX10_read_161 (by decide) ?_
          refine V_iret (pc := 166) C hr hlk dX10_read_166 ⟨_, rfl, ?_⟩
          first | (rw [if_pos h_147] at fin2; exact fin2) | (rw [if_neg h_147, if_pos h_156] at fin2; exact fin2) | (rw [if_neg h_147, if_neg h_156] at fin2; exact fin2)
      · refine V_iload_n (pc := 150) C 3 dX10_read_150 rfl rfl ?_
        refine V_goto (tgt := 166) (pc := 151) C dX10_read_151 (by decide) ?_
        refine V_iret (pc := 166) C hr hlk dX10_read_166 ⟨_, rfl, ?_⟩
        first | (rw [if_pos h_147] at fin2; exact fin2) | (rw [if_neg h_147, if_pos h_156] at fin2; exact fin2) | (rw [if_neg h_147, if_neg h_156] at fin2; exact fin2)
    · have ht : ¬ q.2.2.1 = 0 := fun e => h_139 (hte.mpr e)
      refine V_aload_n (pc := 142) C 0 dX10_read_142 rfl rfl ?_
      refine call_X10_201 (pc := 143) C (r_fail (d := d - 1) hG hE hR) (by omega) (wg hG (by decide) (by decide)) (Nat.le_of_ble_eq_true rfl) dX10_read_143 (fun M_143 h_143 => ?_)
      obtain ⟨k1, k2, k3⟩ := h_143
      have fin2 := fin M_143 k1 (by
        rw [if_neg ht]
        refine ⟨k3.bad, fun _ => ?_⟩
        rcases k3 with ⟨y, _⟩ | ⟨_, _, _, y⟩
        · exact absurd y hrf
        · exact y)
      refine V_iload_n (pc := 146) C 2 dX10_read_146 rfl rfl ?_
      refine V_if_ne (tgt := 154) (pc := 147) C dX10_read_147 (by decide) (fun h_147 => ?_) (fun h_147 => ?_)
      · refine V_iload_n (pc := 154) C 2 dX10_read_154 rfl rfl ?_
        refine V_iconst (v := 1) (pc := 155) C dX10_read_155 (by decide) ?_
        refine V_icmp_ne (tgt := 164) (pc := 156) C dX10_read_156 (by decide) (fun h_156 => ?_) (fun h_156 => ?_)
        · refine V_iload (pc := 164) C 5 dX10_read_164 rfl ?_
          refine V_iret (pc := 166) C hr hlk dX10_read_166 ⟨_, rfl, ?_⟩
          first | (rw [if_pos h_147] at fin2; exact fin2) | (rw [if_neg h_147, if_pos h_156] at fin2; exact fin2) | (rw [if_neg h_147, if_neg h_156] at fin2; exact fin2)
        · refine V_iload (pc := 159) C 4 dX10_read_159 rfl ?_
          refine V_goto (tgt := 166) (pc := 161) C dX10_read_161 (by decide) ?_
          refine V_iret (pc := 166) C hr hlk dX10_read_166 ⟨_, rfl, ?_⟩
          first | (rw [if_pos h_147] at fin2; exact fin2) | (rw [if_neg h_147, if_pos h_156] at fin2; exact fin2) | (rw [if_neg h_147, if_neg h_156] at fin2; exact fin2)
      · refine V_iload_n (pc := 150) C 3 dX10_read_150 rfl rfl ?_
        refine V_goto (tgt := 166) (pc := 151) C dX10_read_151 (by decide) ?_
        refine V_iret (pc := 166) C hr hlk dX10_read_166 ⟨_, rfl, ?_⟩
        first | (rw [if_pos h_147] at fin2; exact fin2) | (rw [if_neg h_147, if_pos h_156] at fin2; exact fin2) | (rw [if_neg h_147, if_neg h_156] at fin2; exact fin2)
end S55
