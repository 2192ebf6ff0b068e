def lstep (least c : Int32) : Int32 := if c < 0 then least else if least < 0 then c else if least ≤ c then least else c
def kLeastF (f : Nat → Int32) : Nat → Nat → Int32 → Int32
  | _, 0, acc => acc
  | b, n + 1, acc => kLeastF f (b + 1) n (lstep acc (f b))
def kFirstF (f : Nat → Int32) (c : Int32) : Nat → Nat → Int32
  | _, 0 => -1
  | b, n + 1 => if f b = c then nI b else kFirstF f c (b + 1) n
/-- what nobody of the class's scratch rows is -/
def Scr (M M' : wS) : Prop := (∀ g i, g ∉ [13, 14, 15, 17, 18, 19, 20, 21, 23, 24, 25] → M'.1 g i = M.1 g i) ∧ (M'.2 = M.2 ∧ M'.1 18 0 0 = M.1 18 0 0 ∧ M'.1 19 0 0 = M.1 19 0 0 ∧ M'.1 20 0 0 = M.1 20 0 0)
theorem Scr.rf {M : wS} : Scr M M := ⟨fun _ _ _ => rfl, rfl, rfl, rfl, rfl⟩
theorem Scr.tr {M M1 M2 : wS} (h : Scr M M1) (h2 : Scr M1 M2) : Scr M M2 := ⟨fun g i a => (h2.1 g i a).trans (h.1 g i a), h2.2.1.trans h.2.1, h2.2.2.1.trans h.2.2.1, h2.2.2.2.1.trans h.2.2.2.1, h2.2.2.2.2.trans h.2.2.2.2⟩
theorem Sc.scr {M M' : wS} (h : Sc M M') : Scr M M' := ⟨fun g i a => h.1 g i (fun e => a (by simp [e])) (fun e => a (by simp [e])), h.2.2.2, by rw [h.1 18 0 (by decide) (by decide)], by rw [h.1 19 0 (by decide) (by decide)], by rw [h.1 20 0 (by decide) (by decide)]⟩
def kShow (M : wS) (a b o : Int32) : wS := mset (mset (mset M 14 0 1 a) 14 0 2 b) 13 0 2 o
theorem kShow_ne (M : wS) (a b o : Int32) {g i : Nat} (h1 : g ≠ 14) (h2 : g ≠ 13) : (kShow M a b o).1 g i = M.1 g i := by
  funext j
  simp [kShow, mset_at, h1, h2]
theorem kShow_scr (M : wS) (a b o : Int32) : Scr M (kShow M a b o) := ⟨fun g i h => kShow_ne M a b o (fun e => h (by simp [e])) (fun e => h (by simp [e])), rfl, by rw [kShow_ne M a b o (by decide) (by decide)], by rw [kShow_ne M a b o (by decide) (by decide)], by rw [kShow_ne M a b o (by decide) (by decide)]⟩
/-- the memory but for the scene -/
def St (M M' : wS) : Prop := (∀ g i, g ≠ 13 → g ≠ 14 → g ≠ 15 → M'.1 g i = M.1 g i) ∧ M'.2 = M.2
theorem St.rf {M : wS} : St M M := ⟨fun _ _ _ _ _ => rfl, rfl⟩
theorem St.tr {M M1 M2 : wS} (h : St M M1) (h2 : St M1 M2) : St M M2 := ⟨fun g i a b c => (h2.1 g i a b c).trans (h.1 g i a b c), h2.2.trans h.2⟩
theorem Sc.st {M M' : wS} (h : Sc M M') : St M M' := ⟨fun g i _ b c => h.1 g i b c, h.2.2.2⟩
theorem St.scr {M M' : wS} (h : St M M') : Scr M M' := ⟨fun g i a => h.1 g i (fun e => a (by simp [e])) (fun e => a (by simp [e])) (fun e => a (by simp [e])), h.2, by rw [h.1 18 0 (by decide) (by decide) (by decide)], by rw [h.1 19 0 (by decide) (by decide) (by decide)], by rw [h.1 20 0 (by decide) (by decide) (by decide)]⟩
theorem kShow_st (M : wS) (a b o : Int32) : St M (kShow M a b o) := ⟨fun g i h1 h2 _ => kShow_ne M a b o h2 h1, rfl⟩
theorem IX.show_ {M : wS} {r e1 e2 e3 : Nat} (a b o : Int32) (h : IX M r e1 e2 e3) : IX (kShow M a b o) r e1 e2 e3 := by
  unfold IX at *
  rw [kShow_ne M a b o (by decide) (by decide), kShow_ne M a b o (by decide) (by decide)]
  exact h
theorem IB.show_ {M : wS} (a b o : Int32) (h : IB M) : IB (kShow M a b o) := by
  intro k hk
  rw [kShow_ne M a b o (by decide) (by decide), kShow_ne M a b o (by decide) (by decide), kShow_ne M a b o (by decide) (by decide)]
  exact h k hk
/-- a truth as an int, of any proposition -/
noncomputable abbrev bP (P : Prop) : Int32 := @bI P (Classical.propDecidable P)
theorem bP_t {P : Prop} (h : P) : 1 = bP P := @bI_t P (Classical.propDecidable P) h
theorem bP_f {P : Prop} (h : ¬ P) : 0 = bP P := @bI_f P (Classical.propDecidable P) h
/-- bit t of a set -/
def hasB (v : Int32) (t : Nat) : Prop := ¬ (v >>> (nI t &&& 31)) &&& 1 = 0
def kUnb (M : wS) : Int32 := (1 <<< (M.1 0 0 12 &&& 31) - 1) &&& (M.1 26 0 3 ^^^ -1)
section S16
variable {l : Launch} {D : va_G} {cy : Nat → ClassId} {ad : Nat → Nat → Nat} {G d : Nat}
theorem c2_X9_costBy (hG : 30 ≤ G) (hd : 4 ≤ d) (M : wS) {r e1 e2 e3 : Nat} (hX : IX M r e1 e2 e3) (hB : IB M) (hw : 0 ≤ M.1 26 0 4 ∧ M.1 26 0 4 ≤ 51) {k : Nat} (hk7 : k < 7) (fee n : Int32) (hn : 0 ≤ n ∧ n ≤ 103) : Ctr l D cy ad G d yX9_costBy cX9_costBy 5 (some .int) [.ref (ad 0 0), .int (nI k), .int fee, .int n] M (rI fun x M' => Sc M M' ∧ x = kCost M r e1 e2 k fee n) := by
  refine (c_X9_costBy hG hd M hX hB hw hk7 fee n hn).weaken ?_
  rintro _ M' ⟨x, rfl, ⟨f, rfl⟩, rfl⟩
  exact ⟨_, rfl, Sc.env, rfl⟩
theorem lp_X9_leastCost {p : Program} {e : Env} {s : State} {m : MethodId} {args : Array Value} {below : List Frame} {meth : Method} {c : Code} (C : CX p s m args c cX9_leastCost 5 "CostsAge" D cy ad G (wA ad G) (Rm d) d 0 0) (hr : meth.sig.returnType = (some .int)) (hlk : meth.locks = false) (hG : 30 ≤ G) (hd : 5 ≤ d) (M : wS) {nb r e1 e2 e3 : Nat} (hnb : M.1 0 0 11 = nI nb) (hn7 : nb ≤ 7) (hX : IX M r e1 e2 e3) (hB : IB M) (hw : 0 ≤ M.1 26 0 4 ∧ M.1 26 0 4 ≤ 51) (wk : Int32) (hn : 0 ≤ wk ∧ wk ≤ 103) (Qf : Int32 → wS → Prop) : ∀ (n b : Nat) (acc : Int32) (M1 : wS), b + n = nb → Sc M M1 → (∀ M', Sc M M' → Qf (kLeastF (fun k => kCost M r e1 e2 k (M.1 28 0 k) wk) b n acc) M') → V p l e (Rm d) s m args below meth c 5 D cy ad G (wA ad G) 0 0 (MQ below (wQ D cy ad G (rI Qf)) args s 0 0 (wA ad G)) 5 [(0, .ref (ad 0 0)), (1, .int wk), (2, .int acc), (3, .int (nI b))] [] M1 := by
  intro n
  induction n with
  | zero =>
    intro b acc M1 hb hS hq
    refine V_iload_n (pc := 5) C 3 dX9_leastCost_5 rfl rfl ?_
    refine V_aload_n (pc := 6) C 0 dX9_leastCost_6 rfl rfl ?_
    refine get_X9_106 (pc := 7) C (wg hG (by decide) (by decide)) dX9_leastCost_7 ?_
    refine V_icmp_ge (tgt := 54) (pc := 10) C dX9_leastCost_10 (by decide) (fun h_10 => ?_) (fun h_10 => ?_)
    · refine V_iload_n (pc := 54) C 2 dX9_leastCost_54 rfl rfl ?_
      refine V_iret (pc := 55) C hr hlk dX9_leastCost_55 ⟨_, rfl, ?_⟩
      exact hq M1 hS
    · rw [hS.1 0 0 (by decide) (by decide), hnb] at h_10
      exact absurd (nI_le (by omega) (by omega)) h_10
  | succ n ih =>
    intro b acc M1 hb hS hq
    have hq2 : ∀ M', Sc M M' → Qf (kLeastF (fun k => kCost M r e1 e2 k (M.1 28 0 k) wk) (b + 1) n (lstep acc (kCost M r e1 e2 b (M.1 28 0 b) wk))) M' := hq
    refine V_iload_n (pc := 5) C 3 dX9_leastCost_5 rfl rfl ?_
    refine V_aload_n (pc := 6) C 0 dX9_leastCost_6 rfl rfl ?_
    refine get_X9_106 (pc := 7) C (wg hG (by decide) (by decide)) dX9_leastCost_7 ?_
    refine V_icmp_ge (tgt := 54) (pc := 10) C dX9_leastCost_10 (by decide) (fun h_10 => ?_) (fun h_10 => ?_)
    · rw [hS.1 0 0 (by decide) (by decide), hnb] at h_10
      exact absurd h_10 (nI_ge (by omega) (by omega))
    · refine V_aload_n (pc := 13) C 0 dX9_leastCost_13 rfl rfl ?_
      refine V_iload_n (pc := 14) C 3 dX9_leastCost_14 rfl rfl ?_
      refine V_aload_n (pc := 15) C 0 dX9_leastCost_15 rfl rfl ?_
      refine get_X9_64 (pc := 16) C (wg hG (by decide) (by decide)) dX9_leastCost_16 ?_
      refine get_X9_122 (pc := 19) C (wg hG (by decide) (by decide)) dX9_leastCost_19 ?_
      refine V_iload_n (pc := 22) C 3 dX9_leastCost_22 rfl rfl ?_
      refine V_iald (pc := 23) C (b) rfl (by omega) (Nat.le_of_ble_eq_true rfl) (wg hG (by decide) (by decide)) wF_28 dX9_leastCost_23 ?_
      refine V_iload_n (pc := 24) C 1 dX9_leastCost_24 rfl rfl ?_
      refine call_X9_183 (pc := 25) C (c2_X9_costBy (d := d - 1) hG (by omega) M1 (hX.sc hS) (hB.sc hS) (by rw [hS.1 26 0 (by decide) (by decide)]; exact hw) (k := b) (by omega) _ wk hn) (by omega) (wg hG (by decide) (by decide)) (Nat.le_of_ble_eq_true rfl) dX9_leastCost_25 (fun x_25 M_25 h_25 => ?_)
      obtain ⟨hS1, rfl⟩ := h_25
      have hS2 := hS.tr hS1
      rw [kCost_sc hS, hS.1 28 0 (by decide) (by decide)]
      generalize kCost M r e1 e2 b (M.1 28 0 b) wk = v at hq2 ⊢
      refine Vs_istore (lv' := [(0, _), (1, _), (2, _), (3, _), (4, _)]) (pc := 28) C dX9_leastCost_28 (by decide) rfl rfl ?_
      refine V_iload (pc := 30) C 4 dX9_leastCost_30 rfl ?_
      refine V_if_lt (tgt := 48) (pc := 32) C dX9_leastCost_32 (by decide) (fun h_32 => ?_) (fun h_32 => ?_)
      · refine Vs_iinc (v := nI (b + 1)) (lv' := [(0, _), (1, _), (2, _), (3, _), (4, _)]) (pc := 48) C 3 dX9_leastCost_48 rfl (by decide) rfl (nI_i1 (b)) rfl ?_
        refine V_goto (tgt := 5) (pc := 51) C dX9_leastCost_51 (by decide) ?_
        refine V_loc (lv' := [(0, _), (1, _), (2, _), (3, _)]) [0, 1, 2, 3] rfl ?_
        exact ih (b + 1) _ _ (by omega) hS2 (by simpa only [lstep, if_pos h_32] using hq2)
      · refine V_iload_n (pc := 35) C 2 dX9_leastCost_35 rfl rfl ?_
        refine V_if_lt (tgt := 45) (pc := 36) C dX9_leastCost_36 (by decide) (fun h_36 => ?_) (fun h_36 => ?_)
        · refine V_iload (pc := 45) C 4 dX9_leastCost_45 rfl ?_
          refine Vs_istore_n (lv' := [(0, _), (1, _), (2, _), (3, _), (4, _)]) (pc := 47) C dX9_leastCost_47 rfl (by decide) rfl rfl ?_
          refine Vs_iinc (v := nI (b + 1)) (lv' := [(0, _), (1, _), (2, _), (3, _), (4, _)]) (pc := 48) C 3 dX9_leastCost_48 rfl (by decide) rfl (nI_i1 (b)) rfl ?_
          refine V_goto (tgt := 5) (pc := 51) C dX9_leastCost_51 (by decide) ?_
          refine V_loc (lv' := [(0, _), (1, _), (2, _), (3, _)]) [0, 1, 2, 3] rfl ?_
          exact ih (b + 1) _ _ (by omega) hS2 (by simpa only [lstep, if_neg h_32, if_pos h_36] using hq2)
        · refine V_iload (pc := 39) C 4 dX9_leastCost_39 rfl ?_
          refine V_iload_n (pc := 41) C 2 dX9_leastCost_41 rfl rfl ?_
          refine V_icmp_ge (tgt := 48) (pc := 42) C dX9_leastCost_42 (by decide) (fun h_42 => ?_) (fun h_42 => ?_)
          · refine Vs_iinc (v := nI (b + 1)) (lv' := [(0, _), (1, _), (2, _), (3, _), (4, _)]) (pc := 48) C 3 dX9_leastCost_48 rfl (by decide) rfl (nI_i1 (b)) rfl ?_
            refine V_goto (tgt := 5) (pc := 51) C dX9_leastCost_51 (by decide) ?_
            refine V_loc (lv' := [(0, _), (1, _), (2, _), (3, _)]) [0, 1, 2, 3] rfl ?_
            exact ih (b + 1) _ _ (by omega) hS2 (by simpa only [lstep, if_neg h_32, if_neg h_36, if_pos h_42] using hq2)
          · refine V_iload (pc := 45) C 4 dX9_leastCost_45 rfl ?_
            refine Vs_istore_n (lv' := [(0, _), (1, _), (2, _), (3, _), (4, _)]) (pc := 47) C dX9_leastCost_47 rfl (by decide) rfl rfl ?_
            refine Vs_iinc (v := nI (b + 1)) (lv' := [(0, _), (1, _), (2, _), (3, _), (4, _)]) (pc := 48) C 3 dX9_leastCost_48 rfl (by decide) rfl (nI_i1 (b)) rfl ?_
            refine V_goto (tgt := 5) (pc := 51) C dX9_leastCost_51 (by decide) ?_
            refine V_loc (lv' := [(0, _), (1, _), (2, _), (3, _)]) [0, 1, 2, 3] rfl ?_
            exact ih (b + 1) _ _ (by omega) hS2 (by simpa only [lstep, if_neg h_32, if_neg h_36, if_neg h_42] using hq2)
def kLeast (M : wS) (nb r e1 e2 : Nat) (wk : Int32) : Int32 := kLeastF (fun k => kCost M r e1 e2 k (M.1 28 0 k) wk) 0 nb (-5)
theorem c_X9_leastCost (hG : 30 ≤ G) (hd : 5 ≤ d) (M : wS) {nb r e1 e2 e3 : Nat} (hnb : M.1 0 0 11 = nI nb) (hn7 : nb ≤ 7) (hX : IX M r e1 e2 e3) (hB : IB M) (hw : 0 ≤ M.1 26 0 4 ∧ M.1 26 0 4 ≤ 51) (wk : Int32) (hn : 0 ≤ wk ∧ wk ≤ 103) : Ctr l D cy ad G d yX9_leastCost cX9_leastCost 5 (some .int) [.ref (ad 0 0), .int wk] M (rI fun x M' => Sc M M' ∧ x = kLeast M nb r e1 e2 wk) := by
  refine Ctr.of (lv0 := [(0, _), (1, _)]) (by decide) (Nat.le_of_ble_eq_true rfl) rfl ?_
  intro p e s m args below meth c C hr hlk _
  have C : CX p s m args c cX9_leastCost 5 "CostsAge" D cy ad G (wA ad G) (Rm d) d 0 0 := C
  refine V_bipush (v := -5) (pc := 0) C dX9_leastCost_0 (by decide) ?_
  refine Vs_istore_n (lv' := [(0, _), (1, _), (2, _)]) (pc := 2) C dX9_leastCost_2 rfl (by decide) rfl rfl ?_
  refine V_iconst (v := 0) (pc := 3) C dX9_leastCost_3 (by decide) ?_
  refine Vs_istore_n (lv' := [(0, _), (1, _), (2, _), (3, _)]) (pc := 4) C dX9_leastCost_4 rfl (by decide) rfl rfl ?_
  exact lp_X9_leastCost C hr hlk hG hd M hnb hn7 hX hB hw wk hn _ nb 0 _ M (by omega) Sc.rf (fun M' h => ⟨h, rfl⟩)
theorem lp_X9_firstBuyerFor {p : Program} {e : Env} {s : State} {m : MethodId} {args : Array Value} {below : List Frame} {meth : Method} {c : Code} (C : CX p s m args c cX9_firstBuyerFor 4 "CostsAge" D cy ad G (wA ad G) (Rm d) d 0 0) (hr : meth.sig.returnType = (some .int)) (hlk : meth.locks = false) (hG : 30 ≤ G) (hd : 5 ≤ d) (M : wS) {nb r e1 e2 e3 : Nat} (hnb : M.1 0 0 11 = nI nb) (hn7 : nb ≤ 7) (hX : IX M r e1 e2 e3) (hB : IB M) (hw : 0 ≤ M.1 26 0 4 ∧ M.1 26 0 4 ≤ 51) (cst wk : Int32) (hn : 0 ≤ wk ∧ wk ≤ 103) (Qf : Int32 → wS → Prop) : ∀ (n b : Nat) (M1 : wS), b + n = nb → Sc M M1 → (∀ M', Sc M M' → Qf (kFirstF (fun k => kCost M r e1 e2 k (M.1 28 0 k) wk) cst b n) M') → V p l e (Rm d) s m args below meth c 4 D cy ad G (wA ad G) 0 0 (MQ below (wQ D cy ad G (rI Qf)) args s 0 0 (wA ad G)) 2 [(0, .ref (ad 0 0)), (1, .int cst), (2, .int wk), (3, .int (nI b))] [] M1 := by
  intro n
  induction n with
  | zero =>
    intro b M1 hb hS hq
    refine V_iload_n (pc := 2) C 3 dX9_firstBuyerFor_2 rfl rfl ?_
    refine V_aload_n (pc := 3) C 0 dX9_firstBuyerFor_3 rfl rfl ?_
    refine get_X9_106 (pc := 4) C (wg hG (by decide) (by decide)) dX9_firstBuyerFor_4 ?_
    refine V_icmp_ge (tgt := 37) (pc := 7) C dX9_firstBuyerFor_7 (by decide) (fun h_7 => ?_) (fun h_7 => ?_)
    · refine V_iconst (v := -1) (pc := 37) C dX9_firstBuyerFor_37 (by decide) ?_
      refine V_iret (pc := 38) C hr hlk dX9_firstBuyerFor_38 ⟨_, rfl, ?_⟩
      exact hq M1 hS
    · rw [hS.1 0 0 (by decide) (by decide), hnb] at h_7
      exact absurd (nI_le (by omega) (by omega)) h_7
  | succ n ih =>
    intro b M1 hb hS hq
    have hq2 : ∀ M', Sc M M' → Qf (if kCost M r e1 e2 b (M.1 28 0 b) wk = cst then nI b else kFirstF (fun k => kCost M r e1 e2 k (M.1 28 0 k) wk) cst (b + 1) n) M' := hq
    refine V_iload_n (pc := 2) C 3 dX9_firstBuyerFor_2 rfl rfl ?_
    refine V_aload_n (pc := 3) C 0 dX9_firstBuyerFor_3 rfl rfl ?_
    refine get_X9_106 (pc := 4) C (wg hG (by decide) (by decide)) dX9_firstBuyerFor_4 ?_
    refine V_icmp_ge (tgt := 37) (pc := 7) C dX9_firstBuyerFor_7 (by decide) (fun h_7 => ?_) (fun h_7 => ?_)
    · rw [hS.1 0 0 (by decide) (by decide), hnb] at h_7
      exact absurd h_7 (nI_ge (by omega) (by omega))
    · refine V_aload_n (pc := 10) C 0 dX9_firstBuyerFor_10 rfl rfl ?_
      refine V_iload_n (pc := 11) C 3 dX9_firstBuyerFor_11 rfl rfl ?_
      refine V_aload_n (pc := 12) C 0 dX9_firstBuyerFor_12 rfl rfl ?_
      refine get_X9_64 (pc := 13) C (wg hG (by decide) (by decide)) dX9_firstBuyerFor_13 ?_
      refine get_X9_122 (pc := 16) C (wg hG (by decide) (by decide)) dX9_firstBuyerFor_16 ?_
      refine V_iload_n (pc := 19) C 3 dX9_firstBuyerFor_19 rfl rfl ?_
      refine V_iald (pc := 20) C (b) rfl (by omega) (Nat.le_of_ble_eq_true rfl) (wg hG (by decide) (by decide)) wF_28 dX9_firstBuyerFor_20 ?_
      refine V_iload_n (pc := 21) C 2 dX9_firstBuyerFor_21 rfl rfl ?_
      refine call_X9_183 (pc := 22) C (c2_X9_costBy (d := d - 1) hG (by omega) M1 (hX.sc hS) (hB.sc hS) (by rw [hS.1 26 0 (by decide) (by decide)]; exact hw) (k := b) (by omega) _ wk hn) (by omega) (wg hG (by decide) (by decide)) (Nat.le_of_ble_eq_true rfl) dX9_firstBuyerFor_22 (fun x_22 M_22 h_22 => ?_)
      obtain ⟨hS1, rfl⟩ := h_22
      have hS2 := hS.tr hS1
      rw [kCost_sc hS, hS.1 28 0 (by decide) (by decide)]
      generalize kCost M r e1 e2 b (M.1 28 0 b) wk = v at hq2 ⊢
      refine V_iload_n (pc := 25) C 1 dX9_firstBuyerFor_25 rfl rfl ?_
      refine V_icmp_ne (tgt := 31) (pc := 26) C dX9_firstBuyerFor_26 (by decide) (fun h_26 => ?_) (fun h_26 => ?_)
      · refine Vs_iinc (v := nI (b + 1)) (lv' := [(0, _), (1, _), (2, _), (3, _)]) (pc := 31) C 3 dX9_firstBuyerFor_31 rfl (by decide) rfl (nI_i1 (b)) rfl ?_
        refine V_goto (tgt := 2) (pc := 34) C dX9_firstBuyerFor_34 (by decide) ?_
        exact ih (b + 1) _ (by omega) hS2 (by simpa only [if_neg h_26] using hq2)
      · refine V_iload_n (pc := 29) C 3 dX9_firstBuyerFor_29 rfl rfl ?_
        refine V_iret (pc := 30) C hr hlk dX9_firstBuyerFor_30 ⟨_, rfl, ?_⟩
        simpa only [if_pos h_26] using hq2 _ hS2
theorem c_X9_firstBuyerFor (hG : 30 ≤ G) (hd : 5 ≤ d) (M : wS) {nb r e1 e2 e3 : Nat} (hnb : M.1 0 0 11 = nI nb) (hn7 : nb ≤ 7) (hX : IX M r e1 e2 e3) (hB : IB M) (hw : 0 ≤ M.1 26 0 4 ∧ M.1 26 0 4 ≤ 51) (cst wk : Int32) (hn : 0 ≤ wk ∧ wk ≤ 103) : Ctr l D cy ad G d yX9_firstBuyerFor cX9_firstBuyerFor 4 (some .int) [.ref (ad 0 0), .int cst, .int wk] M (rI fun x M' => Sc M M' ∧ x = kFirstF (fun k => kCost M r e1 e2 k (M.1 28 0 k) wk) cst 0 nb) := by
  refine Ctr.of (lv0 := [(0, _), (1, _), (2, _)]) (by decide) (Nat.le_of_ble_eq_true rfl) rfl ?_
  intro p e s m args below meth c C hr hlk _
  have C : CX p s m args c cX9_firstBuyerFor 4 "CostsAge" D cy ad G (wA ad G) (Rm d) d 0 0 := C
  refine V_iconst (v := 0) (pc := 0) C dX9_firstBuyerFor_0 (by decide) ?_
  refine Vs_istore_n (lv' := [(0, _), (1, _), (2, _), (3, _)]) (pc := 1) C dX9_firstBuyerFor_1 rfl (by decide) rfl rfl ?_
  exact lp_X9_firstBuyerFor C hr hlk hG hd M hnb hn7 hX hB hw cst wk hn _ nb 0 M (by omega) Sc.rf (fun M' h => ⟨h, rfl⟩)
theorem c_X9_showAlone (hG : 30 ≤ G) (hd : 1 ≤ d) (M : wS) {t : Nat} (ht : t < 7) : Ctr l D cy ad G d yX9_showAlone cX9_showAlone 2 (some .boolean) [.ref (ad 0 0), .int (nI t)] M (rI fun x M' => (hasB (M.1 26 0 3) t ∧ x = 0 ∧ M' = M) ∨ (¬ hasB (M.1 26 0 3) t ∧ x = 1 ∧ M' = kShow M (M.1 6 t 0) (M.1 6 t 1) (M.1 29 0 t))) := by
  refine Ctr.of (lv0 := [(0, _), (1, _)]) (by decide) (Nat.le_of_ble_eq_true rfl) rfl ?_
  intro p e s m args below meth c C hr hlk _
  have C : CX p s m args c cX9_showAlone 2 "CostsAge" D cy ad G (wA ad G) (Rm d) d 0 0 := C
  refine V_aload_n (pc := 0) C 0 dX9_showAlone_0 rfl rfl ?_
  refine get_X9_64 (pc := 1) C (wg hG (by decide) (by decide)) dX9_showAlone_1 ?_
  refine get_X9_169 (pc := 4) C (wg hG (by decide) (by decide)) dX9_showAlone_4 ?_
  refine V_iload_n (pc := 7) C 1 dX9_showAlone_7 rfl rfl ?_
  refine call_X9_209 (pc := 8) C (c_X9_has (d := d - 1) M _ _) (by omega) (Nat.le_of_ble_eq_true rfl) dX9_showAlone_8 (fun x_8 M_8 h_8 => ?_)
  obtain ⟨e_8, rfl⟩ := h_8
  have e_8 := e_8.symm
  subst e_8
  refine V_if_eq (tgt := 16) (pc := 11) C dX9_showAlone_11 (by decide) (fun h_11 => ?_) (fun h_11 => ?_)
  · have h_11 := bJ_0.mp h_11
    refine V_aload_n (pc := 16) C 0 dX9_showAlone_16 rfl rfl ?_
    refine get_X9_43 (pc := 17) C (wg hG (by decide) (by decide)) dX9_showAlone_17 ?_
    refine V_aload_n (pc := 20) C 0 dX9_showAlone_20 rfl rfl ?_
    refine get_X9_17 (pc := 21) C (wg hG (by decide) (by decide)) dX9_showAlone_21 ?_
    refine V_iload_n (pc := 24) C 1 dX9_showAlone_24 rfl rfl ?_
    refine V_aald (pc := 25) C (t) rfl ht (Nat.le_of_ble_eq_true rfl) (wg hG (by decide) (by decide)) wF_2 rfl dX9_showAlone_25 ?_
    refine get_X9_127 (pc := 26) C (wg hG (by decide) (show (t) < 7 from ht)) dX9_showAlone_26 ?_
    refine V_aload_n (pc := 29) C 0 dX9_showAlone_29 rfl rfl ?_
    refine get_X9_17 (pc := 30) C (wg hG (by decide) (by decide)) dX9_showAlone_30 ?_
    refine V_iload_n (pc := 33) C 1 dX9_showAlone_33 rfl rfl ?_
    refine V_aald (pc := 34) C (t) rfl ht (Nat.le_of_ble_eq_true rfl) (wg hG (by decide) (by decide)) wF_2 rfl dX9_showAlone_34 ?_
    refine get_X9_130 (pc := 35) C (wg hG (by decide) (show (t) < 7 from ht)) dX9_showAlone_35 ?_
    refine V_aload_n (pc := 38) C 0 dX9_showAlone_38 rfl rfl ?_
    refine get_X9_64 (pc := 39) C (wg hG (by decide) (by decide)) dX9_showAlone_39 ?_
    refine get_X9_133 (pc := 42) C (wg hG (by decide) (by decide)) dX9_showAlone_42 ?_
    refine V_iload_n (pc := 45) C 1 dX9_showAlone_45 rfl rfl ?_
    refine V_iald (pc := 46) C (t) rfl ht (Nat.le_of_ble_eq_true rfl) (wg hG (by decide) (by decide)) wF_29 dX9_showAlone_46 ?_
    refine call_X9_212 (pc := 47) C (c_X4_show (d := d - 1) hG M _ _ _) (by omega) (wg hG (by decide) (by decide)) (Nat.le_of_ble_eq_true rfl) dX9_showAlone_47 (fun M_47 h_47 => ?_)
    have e_47 := h_47.symm
    subst e_47
    refine V_iconst (v := 1) (pc := 50) C dX9_showAlone_50 (by decide) ?_
    refine V_zret (pc := 51) C hr hlk rfl dX9_showAlone_51 ⟨_, rfl, ?_⟩
    exact Or.inr ⟨h_11, rfl, rfl⟩
  · have h_11 := bJ_1.mp h_11
    refine V_iconst (v := 0) (pc := 14) C dX9_showAlone_14 (by decide) ?_
    refine V_zret (pc := 15) C hr hlk rfl dX9_showAlone_15 ⟨_, rfl, ?_⟩
    exact Or.inl ⟨h_11, rfl, rfl⟩
end S16
