def nxt (o x : Nat) : Nat := ((x + 128 - o) % 128) &&& o
def eGo (low o : Nat) : Nat → Nat → List Nat
  | 0, _ => []
  | n + 1, x => (low ||| x) :: eGo low o n (nxt o x)
theorem eGo_hs : ∀ S, S < 128 → eGo (lowb S) (S ^^^ lowb S) (if S = 0 then 0 else 2 ^ pc7 (S ^^^ lowb S)) 0 = hsL S := by decide +kernel
theorem lowb_i : ∀ S, S < 128 → nI S &&& -(nI S) = nI (lowb S) := by decide +kernel
theorem xor_i : ∀ a, a < 128 → ∀ b, b < 128 → nI a ^^^ nI b = nI (a ^^^ b) := by decide +kernel
theorem or_i : ∀ a, a < 128 → ∀ b, b < 128 → nI a ||| nI b = nI (a ||| b) := by decide +kernel
theorem nxt_i : ∀ o, o < 128 → ∀ x, x < 128 → (nI x - nI o) &&& nI o = nI (nxt o x) := by decide +kernel
theorem lowb_lt : ∀ S, S < 128 → lowb S < 128 ∧ S ^^^ lowb S < 128 ∧ pc7 (S ^^^ lowb S) < 7 + 1 := by decide +kernel
theorem shl_i : ∀ k, k < 8 → (1 : Int32) <<< (nI k &&& 31) = nI (2 ^ k) := by decide +kernel
theorem and_lt {a b : Nat} (h : b < 128) : a &&& b < 128 := Nat.lt_of_le_of_lt Nat.and_le_right h
theorem kPut_kPut (M : wS) (S : Nat) (t m f t2 m2 f2 : Int32) : kPut (kPut M S t m f) S t2 m2 f2 = kPut M S t2 m2 f2 := by
  refine Prod.ext ?_ rfl
  funext g i k
  simp only [kPut, mset_at]
  repeat' split
  all_goals first | rfl | omega
theorem kPut_17 (M : wS) (S : Nat) (t m f : Int32) (h : Nat) : (kPut M S t m f).1 17 0 h = M.1 17 0 h := by simp [kPut, mset_at]
theorem kPut_18 (M : wS) (S : Nat) (t m f : Int32) {h : Nat} (hh : h ≠ S) : (kPut M S t m f).1 18 0 h = M.1 18 0 h ∧ (kPut M S t m f).1 19 0 h = M.1 19 0 h ∧ (kPut M S t m f).1 20 0 h = M.1 20 0 h := by simp [kPut, mset_at, hh]
section S23
variable {l : Launch} {D : va_G} {cy : Nat → ClassId} {ad : Nat → Nat → Nat} {G d : Nat}
theorem lp_X2_choose {p : Program} {e : Env} {s : State} {m : MethodId} {args : Array Value} {below : List Frame} {meth : Method} {c : Code} (C : CX p s m args c cX2_choose 6 "CostsAge$Plan" D cy ad G (wA ad G) (Rm d) d 0 0) (hr : meth.sig.returnType = none) (hlk : meth.locks = false) (hG : 30 ≤ G) (hd : 1 ≤ d) (M : wS) {pr : Nat → Option Nat} {T : Nat → Option (Nat × Nat × Nat)} {S low o : Nat} (hS : S < 128) (hlow : low < 128) (ho : o < 128) (hpr : ∀ h p, pr h = some p → p ≤ 2000) (hTb : ∀ S', S' < S → plB (T S') S') (hp : ∀ h, h ∈ hsL S → eP (pr h) (M.1 17 0 h)) (hT : ∀ S', S' < S → S' &&& S = S' → eT (T S') (M.1 18 0 S') (M.1 19 0 S') (M.1 20 0 S')) (Qf : wS → Prop) : ∀ (n x : Nat) (cur : Option (Nat × Nat × Nat)) (t m2 f : Int32), n ≤ 128 → x < 128 → (∀ h ∈ eGo low o n x, h ∈ hsL S) → plB cur S → eT cur t m2 f → (∀ t' m' f', eT ((eGo low o n x).foldl (fun cur h => plTry pr T S h cur) cur) t' m' f' → Qf (kPut M S t' m' f')) → V p l e (Rm d) s m args below meth c 6 D cy ad G (wA ad G) 0 0 (MQ below (wQ D cy ad G (rV Qf)) args s 0 0 (wA ad G)) 28 [(0, .ref (ad 16 0)), (1, .int (nI S)), (2, .int (nI low)), (3, .int (nI o)), (4, .int (nI x)), (5, .int (nI n))] [] (kPut M S t m2 f) := by
  intro n
  induction n with
  | zero =>
    intro x cur t m2 f hn hx hL hcb hc hq
    refine V_iload (pc := 28) C 5 dX2_choose_28 rfl ?_
    refine V_if_le (tgt := 56) (pc := 30) C dX2_choose_30 (by decide) (fun h_30 => ?_) (fun h_30 => ?_)
    · refine V_vret (pc := 56) C hr hlk dX2_choose_56 ⟨rfl, ?_⟩
      exact hq t m2 f hc
    · exact absurd (by decide) h_30
  | succ n ih =>
    intro x cur t m2 f hn hx hL hcb hc hq
    have hh : low ||| x ∈ hsL S := hL _ List.mem_cons_self
    obtain ⟨g1, g2, g3⟩ := hsL_mem.mp hh
    obtain ⟨f1, f2, f3⟩ := hs_facts S hS (low ||| x) (by omega) g2 g3
    have hne : S ^^^ (low ||| x) ≠ S := by omega
    obtain ⟨w1, w2, w3⟩ := kPut_18 M S t m2 f hne
    have hself : eT cur ((kPut M S t m2 f).1 18 0 S) ((kPut M S t m2 f).1 19 0 S) ((kPut M S t m2 f).1 20 0 S) := by
      have : (kPut M S t m2 f).1 18 0 S = t ∧ (kPut M S t m2 f).1 19 0 S = m2 ∧ (kPut M S t m2 f).1 20 0 S = f := by simp [kPut, mset_at]
      rw [this.1, this.2.1, this.2.2]
      exact hc
    refine V_iload (pc := 28) C 5 dX2_choose_28 rfl ?_
    refine V_if_le (tgt := 56) (pc := 30) C dX2_choose_30 (by decide) (fun h_30 => ?_) (fun h_30 => ?_)
    · exact absurd h_30 (nI_nle (by omega) (by omega))
    · refine V_aload_n (pc := 33) C 0 dX2_choose_33 rfl rfl ?_
      refine V_iload_n (pc := 34) C 1 dX2_choose_34 rfl rfl ?_
      refine V_iload_n (pc := 35) C 2 dX2_choose_35 rfl rfl ?_
      refine V_iload (pc := 36) C 4 dX2_choose_36 rfl ?_
      refine V_ior (pc := 38) C dX2_choose_38 ?_
      rw [or_i low hlow x hx]
      refine call_X2_33 (pc := 39) C (c_X2_tryHeap (d := d - 1) hG (kPut M S t m2 f) (pr := pr) (T := T) (cur := cur) hS hh (hpr _) (hTb _ (by omega)) hcb (by rw [kPut_17]; exact hp _ hh) (by rw [w1, w2, w3]; exact hT _ (by omega) f3) hself) (by omega) (wg hG (by decide) (by decide)) (Nat.le_of_ble_eq_true rfl) dX2_choose_39 (fun M_39 h_39 => ?_)
      obtain ⟨⟨t3, m3, f4, e9⟩, hc3⟩ := h_39
      subst e9
      have : (kPut (kPut M S t m2 f) S t3 m3 f4).1 18 0 S = t3 ∧ (kPut (kPut M S t m2 f) S t3 m3 f4).1 19 0 S = m3 ∧ (kPut (kPut M S t m2 f) S t3 m3 f4).1 20 0 S = f4 := by simp [kPut, mset_at]
      rw [this.1, this.2.1, this.2.2] at hc3
      rw [kPut_kPut]
      refine V_iload (pc := 42) C 4 dX2_choose_42 rfl ?_
      refine V_iload_n (pc := 44) C 3 dX2_choose_44 rfl rfl ?_
      refine V_isub (pc := 45) C dX2_choose_45 ?_
      refine V_iload_n (pc := 46) C 3 dX2_choose_46 rfl rfl ?_
      refine V_iand (pc := 47) C dX2_choose_47 ?_
      rw [nxt_i o ho x hx]
      refine Vs_istore (lv' := [(0, _), (1, _), (2, _), (3, _), (4, _), (5, _)]) (pc := 48) C dX2_choose_48 (by decide) rfl rfl ?_
      refine Vs_iinc (v := nI n) (lv' := [(0, _), (1, _), (2, _), (3, _), (4, _), (5, _)]) (pc := 50) C 5 dX2_choose_50 rfl (by decide) rfl (pk_m1 n) rfl ?_
      refine V_goto (tgt := 28) (pc := 53) C dX2_choose_53 (by decide) ?_
      refine ih (nxt o x) (plTry pr T S (low ||| x) cur) t3 m3 f4 (by omega) (and_lt ho) (fun h z => hL h (List.mem_cons_of_mem _ z)) (plB_try (hpr _) (hTb _ (by omega)) hS hh hcb) hc3 hq
theorem c_X2_choose (hG : 30 ≤ G) (hd : 1 ≤ d) (M : wS) {pr : Nat → Option Nat} {T : Nat → Option (Nat × Nat × Nat)} {S : Nat} (hS : S < 128) (hS0 : 0 < S) (hpr : ∀ h p, pr h = some p → p ≤ 2000) (hTb : ∀ S', S' < S → plB (T S') S') (hp : ∀ h, h ∈ hsL S → eP (pr h) (M.1 17 0 h)) (hT : ∀ S', S' < S → S' &&& S = S' → eT (T S') (M.1 18 0 S') (M.1 19 0 S') (M.1 20 0 S')) : Ctr l D cy ad G d yX2_choose cX2_choose 6 none [.ref (ad 16 0), .int (nI S)] M (rV fun M' => ∃ t m f, M' = kPut M S t m f ∧ eT (plCell pr T S) t m f) := by
  obtain ⟨l1, l2, l3⟩ := lowb_lt S hS
  have hgo := eGo_hs S hS
  rw [if_neg (by omega)] at hgo
  refine Ctr.of (lv0 := [(0, _), (1, _)]) (by decide) (Nat.le_of_ble_eq_true rfl) rfl ?_
  intro p e s m args below meth c C hr hlk _
  have C : CX p s m args c cX2_choose 6 "CostsAge$Plan" D cy ad G (wA ad G) (Rm d) d 0 0 := C
  refine V_iload_n (pc := 0) C 1 dX2_choose_0 rfl rfl ?_
  refine V_iload_n (pc := 1) C 1 dX2_choose_1 rfl rfl ?_
  refine V_ineg (pc := 2) C dX2_choose_2 ?_
  refine V_iand (pc := 3) C dX2_choose_3 ?_
  rw [lowb_i S hS]
  refine Vs_istore_n (lv' := [(0, _), (1, _), (2, _)]) (pc := 4) C dX2_choose_4 rfl (by decide) rfl rfl ?_
  refine V_iload_n (pc := 5) C 1 dX2_choose_5 rfl rfl ?_
  refine V_iload_n (pc := 6) C 2 dX2_choose_6 rfl rfl ?_
  refine V_ixor (pc := 7) C dX2_choose_7 ?_
  rw [xor_i S hS (lowb S) l1]
  refine Vs_istore_n (lv' := [(0, _), (1, _), (2, _), (3, _)]) (pc := 8) C dX2_choose_8 rfl (by decide) rfl rfl ?_
  refine V_aload_n (pc := 9) C 0 dX2_choose_9 rfl rfl ?_
  refine get_X2_15 (pc := 10) C (wg hG (by decide) (by decide)) dX2_choose_10 ?_
  refine V_iload_n (pc := 13) C 1 dX2_choose_13 rfl rfl ?_
  refine V_bipush (v := -5) (pc := 14) C dX2_choose_14 (by decide) ?_
  refine V_iast (pc := 16) C (S) rfl hS (Nat.le_of_ble_eq_true rfl) (wg hG (by decide) (by decide)) (fun _ => wF_18) dX2_choose_16 ?_
  refine V_iconst (v := 0) (pc := 17) C dX2_choose_17 (by decide) ?_
  refine Vs_istore (lv' := [(0, _), (1, _), (2, _), (3, _), (4, _)]) (pc := 18) C dX2_choose_18 (by decide) rfl rfl ?_
  refine V_iconst (v := 1) (pc := 20) C dX2_choose_20 (by decide) ?_
  refine V_iload_n (pc := 21) C 3 dX2_choose_21 rfl rfl ?_
  refine call_X2_27 (pc := 22) C (c_J6_bitCount (d := d - 1) _ l2) (by omega) (Nat.le_of_ble_eq_true rfl) dX2_choose_22 (fun x_22 M_22 h_22 => ?_)
  obtain ⟨e_22, rfl⟩ := h_22
  have e_22 := e_22.symm
  subst e_22
  refine V_ishl (pc := 25) C dX2_choose_25 ?_
  rw [shl_i _ l3]
  refine Vs_istore (lv' := [(0, _), (1, _), (2, _), (3, _), (4, _), (5, _)]) (pc := 26) C dX2_choose_26 (by decide) rfl rfl ?_
  refine V_mem (M' := kPut M S (-5) (M.1 19 0 S) (M.1 20 0 S)) ?_ ?_
  · refine Prod.ext ?_ rfl
    funext g i k
    simp only [kPut, mset_at]
    repeat' split
    all_goals first | rfl | omega | (rename_i z; obtain ⟨rfl, rfl, rfl⟩ := z; rfl) | (rename_i z _; obtain ⟨rfl, rfl, rfl⟩ := z; rfl)
  · refine lp_X2_choose C hr hlk hG hd M hS l1 l2 hpr hTb hp hT _ (2 ^ pc7 (S ^^^ lowb S)) 0 none (-5) _ _ ?_ (by decide) (by rw [hgo]; exact fun _ z => z) (fun q hq => by cases hq) (show (-5 : Int32) < 0 by decide) ?_
    · exact Nat.le_trans (Nat.pow_le_pow_right (by decide) (Nat.le_of_lt_succ l3)) (by decide)
    · intro t' m' f' hz
      rw [hgo] at hz
      exact ⟨t', m', f', rfl, hz⟩
end S23
