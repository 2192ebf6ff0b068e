section S19a
variable {p : Program} {l : Launch} {e : Env} {R : Room} {s : State} {m : MethodId} {args : Array Value} {below : List Frame} {meth : Method} {c : Code} {nL : Nat} {D : va_G} {cy : Nat → ClassId} {ad : Nat → Nat → Nat} {G : Nat} {A : Nat → Prop} {cells slots d : Nat} {Q : State → Prop} {cc : ByteArray} {own : String} {pc : Nat} {lv : List (Nat × Value)} {st : List Value} {M : wS}
theorem V_ldcw (C : CX p s m args c cc nL own D cy ad G A R d cells slots) {index : Nat} {v : Int32} (hd : decode cc pc = .ok (.ldc_w index, 3)) (hw : Cond.constant own index v ∈ lw_good) (k : V p l e R s m args below meth c nL D cy ad G A cells slots Q (pc + 3) lv (.int v :: st) M) : V p l e R s m args below meth c nL D cy ad G A cells slots Q pc lv st M :=
  fun H locs ls h1 h2 h3 => lv_ldcw C.1 C.2.1 C.2.2.2.1 (C.2.2.2.2.1 _ hw) hd (k H locs ls h1 h2 h3)
end S19a
/-- how many of the lowest seven bits are set -/
def pc7 (k : Nat) : Nat := k % 2 + k / 2 % 2 + k / 4 % 2 + k / 8 % 2 + k / 16 % 2 + k / 32 % 2 + k / 64 % 2
section S19
variable {l : Launch} {D : va_G} {cy : Nat → ClassId} {ad : Nat → Nat → Nat} {G d : Nat}
theorem c_J6_bitCount (M : wS) {k : Nat} (hk : k < 128) : Ctr l D cy ad G d yJ6_bitCount_0f7a4 cJ6_bitCount_0f7a4 1 (some .int) [.int (nI k)] M (rI fun x M' => M' = M ∧ x = nI (pc7 k)) := by
  refine Ctr.of (lv0 := [(0, _)]) (by decide) (Nat.le_of_ble_eq_true rfl) rfl ?_
  intro p e s m args below meth c C hr hlk _
  have C : CX p s m args c cJ6_bitCount_0f7a4 1 "java/lang/Integer" D cy ad G (wA ad G) (Rm d) d 0 0 := C
  refine V_iload_n (pc := 0) C 0 dJ6_bitCount_0f7a4_0 rfl rfl ?_
  refine V_iload_n (pc := 1) C 0 dJ6_bitCount_0f7a4_1 rfl rfl ?_
  refine V_iconst (v := 1) (pc := 2) C dJ6_bitCount_0f7a4_2 (by decide) ?_
  refine V_iushr (pc := 3) C dJ6_bitCount_0f7a4_3 ?_
  refine V_ldcw (pc := 4) C dJ6_bitCount_0f7a4_4 qk_J6_265 ?_
  refine V_iand (pc := 7) C dJ6_bitCount_0f7a4_7 ?_
  refine V_isub (pc := 8) C dJ6_bitCount_0f7a4_8 ?_
  refine Vs_istore_n (lv' := [(0, _)]) (pc := 9) C dJ6_bitCount_0f7a4_9 rfl (by decide) rfl rfl ?_
  refine V_iload_n (pc := 10) C 0 dJ6_bitCount_0f7a4_10 rfl rfl ?_
  refine V_ldcw (pc := 11) C dJ6_bitCount_0f7a4_11 qk_J6_266 ?_
  refine V_iand (pc := 14) C dJ6_bitCount_0f7a4_14 ?_
  refine V_iload_n (pc := 15) C 0 dJ6_bitCount_0f7a4_15 rfl rfl ?_
  refine V_iconst (v := 2) (pc := 16) C dJ6_bitCount_0f7a4_16 (by decide) ?_
  refine V_iushr (pc := 17) C dJ6_bitCount_0f7a4_17 ?_
  refine V_ldcw (pc := 18) C dJ6_bitCount_0f7a4_18 qk_J6_266 ?_
  refine V_iand (pc := 21) C dJ6_bitCount_0f7a4_21 ?_
  refine V_iadd (pc := 22) C dJ6_bitCount_0f7a4_22 ?_
  refine Vs_istore_n (lv' := [(0, _)]) (pc := 23) C dJ6_bitCount_0f7a4_23 rfl (by decide) rfl rfl ?_
  refine V_iload_n (pc := 24) C 0 dJ6_bitCount_0f7a4_24 rfl rfl ?_
  refine V_iload_n (pc := 25) C 0 dJ6_bitCount_0f7a4_25 rfl rfl ?_
  refine V_iconst (v := 4) (pc := 26) C dJ6_bitCount_0f7a4_26 (by decide) ?_
  refine V_iushr (pc := 27) C dJ6_bitCount_0f7a4_27 ?_
  refine V_iadd (pc := 28) C dJ6_bitCount_0f7a4_28 ?_
  refine V_ldcw (pc := 29) C dJ6_bitCount_0f7a4_29 qk_J6_267 ?_
  refine V_iand (pc := 32) C dJ6_bitCount_0f7a4_32 ?_
  refine Vs_istore_n (lv' := [(0, _)]) (pc := 33) C dJ6_bitCount_0f7a4_33 rfl (by decide) rfl rfl ?_
  refine V_iload_n (pc := 34) C 0 dJ6_bitCount_0f7a4_34 rfl rfl ?_
  refine V_iload_n (pc := 35) C 0 dJ6_bitCount_0f7a4_35 rfl rfl ?_
  refine V_bipush (v := 8) (pc := 36) C dJ6_bitCount_0f7a4_36 (by decide) ?_
  refine V_iushr (pc := 38) C dJ6_bitCount_0f7a4_38 ?_
  refine V_iadd (pc := 39) C dJ6_bitCount_0f7a4_39 ?_
  refine Vs_istore_n (lv' := [(0, _)]) (pc := 40) C dJ6_bitCount_0f7a4_40 rfl (by decide) rfl rfl ?_
  refine V_iload_n (pc := 41) C 0 dJ6_bitCount_0f7a4_41 rfl rfl ?_
  refine V_iload_n (pc := 42) C 0 dJ6_bitCount_0f7a4_42 rfl rfl ?_
  refine V_bipush (v := 16) (pc := 43) C dJ6_bitCount_0f7a4_43 (by decide) ?_
  refine V_iushr (pc := 45) C dJ6_bitCount_0f7a4_45 ?_
  refine V_iadd (pc := 46) C dJ6_bitCount_0f7a4_46 ?_
  refine Vs_istore_n (lv' := [(0, _)]) (pc := 47) C dJ6_bitCount_0f7a4_47 rfl (by decide) rfl rfl ?_
  refine V_iload_n (pc := 48) C 0 dJ6_bitCount_0f7a4_48 rfl rfl ?_
  refine V_bipush (v := 63) (pc := 49) C dJ6_bitCount_0f7a4_49 (by decide) ?_
  refine V_iand (pc := 51) C dJ6_bitCount_0f7a4_51 ?_
  refine V_iret (pc := 52) C hr hlk dJ6_bitCount_0f7a4_52 ⟨_, rfl, ?_⟩
  refine ⟨rfl, ?_⟩
  clear C hr hlk
  revert hk
  revert k
  decide +kernel
theorem lp_X9_leastInYear {p : Program} {e : Env} {s : State} {m : MethodId} {args : Array Value} {below : List Frame} {meth : Method} {c : Code} (C : CX p s m args c cX9_leastInYear 4 "CostsAge" D cy ad G (wA ad G) (Rm d) d 0 0) (hr : meth.sig.returnType = (some .int)) (hlk : meth.locks = false) (hG : 30 ≤ G) (hd : 6 ≤ d) (M : wS) {nb nt r e1 e2 e3 : Nat} (hP : IP M nb nt r e1 e2 e3) (Qf : Int32 → wS → Prop) : ∀ (n i : Nat) (acc : Int32) (M1 : wS), i + n = 52 → Sc M M1 → (∀ M', Sc M M' → Qf (kLeastF (fun j => kLeast M nb r e1 e2 (nI j)) i n acc) M') → V p l e (Rm d) s m args below meth c 4 D cy ad G (wA ad G) 0 0 (MQ below (wQ D cy ad G (rI Qf)) args s 0 0 (wA ad G)) 5 [(0, .ref (ad 0 0)), (1, .int acc), (2, .int (nI i))] [] M1 := by
  intro n
  induction n with
  | zero =>
    intro i acc M1 hi hS hq
    have hi2 : nI 52 ≤ nI i := nI_le (by omega) (by omega)
    refine V_iload_n (pc := 5) C 2 dX9_leastInYear_5 rfl rfl ?_
    refine V_bipush (v := 52) (pc := 6) C dX9_leastInYear_6 (by decide) ?_
    refine V_icmp_ge (tgt := 38) (pc := 8) C dX9_leastInYear_8 (by decide) (fun h_8 => ?_) (fun h_8 => ?_)
    · refine V_iload_n (pc := 38) C 1 dX9_leastInYear_38 rfl rfl ?_
      refine V_iret (pc := 39) C hr hlk dX9_leastInYear_39 ⟨_, rfl, ?_⟩
      exact hq M1 hS
    · exact absurd hi2 h_8
  | succ n ih =>
    intro i acc M1 hi hS hq
    have hi2 : ¬ nI 52 ≤ nI i := nI_ge (by omega) (by omega)
    have hn0 : 0 ≤ nI i ∧ nI i ≤ 103 := ⟨nI_pos' (by omega), nI_le (a := i) (b := 103) (by omega) (by decide)⟩
    have hP2 := hP.scr hS.scr
    have hq2 : ∀ M', Sc M M' → Qf (kLeastF (fun j => kLeast M nb r e1 e2 (nI j)) (i + 1) n (lstep acc (kLeast M nb r e1 e2 (nI i)))) M' := hq
    have hkl : kLeast M1 nb r e1 e2 (nI i) = kLeast M nb r e1 e2 (nI i) := by
      unfold kLeast
      exact congrArg (fun f => kLeastF f 0 nb (-5)) (funext fun k => by rw [kCost_sc hS, hS.1 28 0 (by decide) (by decide)])
    refine V_iload_n (pc := 5) C 2 dX9_leastInYear_5 rfl rfl ?_
    refine V_bipush (v := 52) (pc := 6) C dX9_leastInYear_6 (by decide) ?_
    refine V_icmp_ge (tgt := 38) (pc := 8) C dX9_leastInYear_8 (by decide) (fun h_8 => ?_) (fun h_8 => ?_)
    · exact absurd h_8 hi2
    · refine V_aload_n (pc := 11) C 0 dX9_leastInYear_11 rfl rfl ?_
      refine V_iload_n (pc := 12) C 2 dX9_leastInYear_12 rfl rfl ?_
      refine call_X9_186 (pc := 13) C (c_X9_leastCost (d := d - 1) hG (by omega) M1 hP2.1.1 hP2.1.2 hP2.2.2.1 hP2.2.2.2.1 hP2.2.2.2.2 (nI i) hn0) (by omega) (wg hG (by decide) (by decide)) (Nat.le_of_ble_eq_true rfl) dX9_leastInYear_13 (fun x_13 M_13 h_13 => ?_)
      obtain ⟨hS1, rfl⟩ := h_13
      have hS2 := hS.tr hS1
      rw [hkl]
      generalize kLeast M nb r e1 e2 (nI i) = v at hq2 ⊢
      refine Vs_istore_n (lv' := [(0, _), (1, _), (2, _), (3, _)]) (pc := 16) C dX9_leastInYear_16 rfl (by decide) rfl rfl ?_
      refine V_iload_n (pc := 17) C 3 dX9_leastInYear_17 rfl rfl ?_
      refine V_if_lt (tgt := 32) (pc := 18) C dX9_leastInYear_18 (by decide) (fun h_18 => ?_) (fun h_18 => ?_)
      · refine Vs_iinc (v := nI (i + 1)) (lv' := [(0, _), (1, _), (2, _), (3, _)]) (pc := 32) C 2 dX9_leastInYear_32 rfl (by decide) rfl (nI_i1 (i)) rfl ?_
        refine V_goto (tgt := 5) (pc := 35) C dX9_leastInYear_35 (by decide) ?_
        refine V_loc (lv' := [(0, _), (1, _), (2, _)]) [0, 1, 2] rfl ?_
        exact ih (i + 1) _ _ (by omega) hS2 (by simpa only [lstep, if_pos h_18] using hq2)
      · refine V_iload_n (pc := 21) C 1 dX9_leastInYear_21 rfl rfl ?_
        refine V_if_lt (tgt := 30) (pc := 22) C dX9_leastInYear_22 (by decide) (fun h_22 => ?_) (fun h_22 => ?_)
        · refine V_iload_n (pc := 30) C 3 dX9_leastInYear_30 rfl rfl ?_
          refine Vs_istore_n (lv' := [(0, _), (1, _), (2, _), (3, _)]) (pc := 31) C dX9_leastInYear_31 rfl (by decide) rfl rfl ?_
          refine Vs_iinc (v := nI (i + 1)) (lv' := [(0, _), (1, _), (2, _), (3, _)]) (pc := 32) C 2 dX9_leastInYear_32 rfl (by decide) rfl (nI_i1 (i)) rfl ?_
          refine V_goto (tgt := 5) (pc := 35) C dX9_leastInYear_35 (by decide) ?_
          refine V_loc (lv' := [(0, _), (1, _), (2, _)]) [0, 1, 2] rfl ?_
          exact ih (i + 1) _ _ (by omega) hS2 (by simpa only [lstep, if_neg h_18, if_pos h_22] using hq2)
        · refine V_iload_n (pc := 25) C 3 dX9_leastInYear_25 rfl rfl ?_
          refine V_iload_n (pc := 26) C 1 dX9_leastInYear_26 rfl rfl ?_
          refine V_icmp_ge (tgt := 32) (pc := 27) C dX9_leastInYear_27 (by decide) (fun h_27 => ?_) (fun h_27 => ?_)
          · refine Vs_iinc (v := nI (i + 1)) (lv' := [(0, _), (1, _), (2, _), (3, _)]) (pc := 32) C 2 dX9_leastInYear_32 rfl (by decide) rfl (nI_i1 (i)) rfl ?_
            refine V_goto (tgt := 5) (pc := 35) C dX9_leastInYear_35 (by decide) ?_
            refine V_loc (lv' := [(0, _), (1, _), (2, _)]) [0, 1, 2] rfl ?_
            exact ih (i + 1) _ _ (by omega) hS2 (by simpa only [lstep, if_neg h_18, if_neg h_22, if_pos h_27] using hq2)
          · refine V_iload_n (pc := 30) C 3 dX9_leastInYear_30 rfl rfl ?_
            refine Vs_istore_n (lv' := [(0, _), (1, _), (2, _), (3, _)]) (pc := 31) C dX9_leastInYear_31 rfl (by decide) rfl rfl ?_
            refine Vs_iinc (v := nI (i + 1)) (lv' := [(0, _), (1, _), (2, _), (3, _)]) (pc := 32) C 2 dX9_leastInYear_32 rfl (by decide) rfl (nI_i1 (i)) rfl ?_
            refine V_goto (tgt := 5) (pc := 35) C dX9_leastInYear_35 (by decide) ?_
            refine V_loc (lv' := [(0, _), (1, _), (2, _)]) [0, 1, 2] rfl ?_
            exact ih (i + 1) _ _ (by omega) hS2 (by simpa only [lstep, if_neg h_18, if_neg h_22, if_neg h_27] using hq2)
def kInYear (M : wS) (nb r e1 e2 : Nat) : Int32 := kLeastF (fun j => kLeast M nb r e1 e2 (nI j)) 0 52 (-5)
theorem c_X9_leastInYear (hG : 30 ≤ G) (hd : 6 ≤ d) (M : wS) {nb nt r e1 e2 e3 : Nat} (hP : IP M nb nt r e1 e2 e3) : Ctr l D cy ad G d yX9_leastInYear cX9_leastInYear 4 (some .int) [.ref (ad 0 0)] M (rI fun x M' => Scr M M' ∧ x = kInYear M nb r e1 e2) := by
  refine Ctr.of (lv0 := [(0, _)]) (by decide) (Nat.le_of_ble_eq_true rfl) rfl ?_
  intro p e s m args below meth c C hr hlk _
  have C : CX p s m args c cX9_leastInYear 4 "CostsAge" D cy ad G (wA ad G) (Rm d) d 0 0 := C
  refine V_bipush (v := -5) (pc := 0) C dX9_leastInYear_0 (by decide) ?_
  refine Vs_istore_n (lv' := [(0, _), (1, _)]) (pc := 2) C dX9_leastInYear_2 rfl (by decide) rfl rfl ?_
  refine V_iconst (v := 0) (pc := 3) C dX9_leastInYear_3 (by decide) ?_
  refine Vs_istore_n (lv' := [(0, _), (1, _), (2, _)]) (pc := 4) C dX9_leastInYear_4 rfl (by decide) rfl rfl ?_
  exact lp_X9_leastInYear C hr hlk hG hd M hP _ 52 0 _ M (by omega) Sc.rf (fun M' h => ⟨h.scr, rfl⟩)
noncomputable def yRun (M : wS) (nb r e1 e2 : Nat) : Nat → Nat → Int32 → Int32
  | _, 0, acc => acc
  | t, n + 1, acc => yRun M nb r e1 e2 (t + 1) n (@ite _ (hasB (M.1 26 0 3) t) (Classical.propDecidable _) acc (acc + (if 0 < kInYear (kAlone M t) nb r e1 e2 then kInYear (kAlone M t) nb r e1 e2 else 0)))
/-- costs do not ask for what is scratch, once a thing is shown -/
theorem kCost_show {M M' : wS} (h : Scr M M') (a b o : Int32) (r e1 e2 k : Nat) (fee n : Int32) : kCost (kShow M' a b o) r e1 e2 k fee n = kCost (kShow M a b o) r e1 e2 k fee n := by
  have key : ∀ j, j < 6 → kEnv (kShow M' a b o) k fee n j = kEnv (kShow M a b o) k fee n j := by
    intro j hj
    have s1 : (kShow M' a b o).1 13 0 2 = (kShow M a b o).1 13 0 2 := by simp [kShow, mset_at]
    have s2 : (kShow M' a b o).1 14 0 1 = (kShow M a b o).1 14 0 1 := by simp [kShow, mset_at]
    have s3 : (kShow M' a b o).1 14 0 2 = (kShow M a b o).1 14 0 2 := by simp [kShow, mset_at]
    simp only [kEnv, s1, kShow_ne _ _ _ _ (g := 5) (i := k) (by decide) (by decide), kShow_ne _ _ _ _ (g := 27) (i := 0) (by decide) (by decide), kShow_ne _ _ _ _ (g := 26) (i := 0) (by decide) (by decide), h.1 5 k (by decide), h.1 27 0 (by decide), h.1 26 0 (by decide), upd]
    match j, hj with
    | 0, _ => simp
    | 1, _ => simp [s2]
    | 2, _ => simp [s3]
    | 3, _ => simp
    | 4, _ => simp
    | 5, _ => simp
  have s1 : (kShow M' a b o).1 13 0 2 = (kShow M a b o).1 13 0 2 := by simp [kShow, mset_at]
  have hp : kPrice (kShow M' a b o) r e1 e2 k fee n = kPrice (kShow M a b o) r e1 e2 k fee n := by
    unfold kPrice
    rw [xVal_congr key, xVal_congr key, kShow_ne _ _ _ _ (g := 8) (i := r) (by decide) (by decide), kShow_ne _ _ _ _ (g := 8) (i := r) (by decide) (by decide), kShow_ne _ _ _ _ (g := 5) (i := k) (by decide) (by decide), kShow_ne _ _ _ _ (g := 5) (i := k) (by decide) (by decide), kShow_ne _ _ _ _ (g := 27) (i := 0) (by decide) (by decide), kShow_ne _ _ _ _ (g := 27) (i := 0) (by decide) (by decide), kShow_ne _ _ _ _ (g := 26) (i := 0) (by decide) (by decide), kShow_ne _ _ _ _ (g := 26) (i := 0) (by decide) (by decide), h.1 8 r (by decide), h.1 5 k (by decide), h.1 27 0 (by decide), h.1 26 0 (by decide)]
  unfold kCost
  rw [hp, s1, kShow_ne _ _ _ _ (g := 5) (i := k) (by decide) (by decide), kShow_ne _ _ _ _ (g := 5) (i := k) (by decide) (by decide), h.1 5 k (by decide)]
theorem kCost_alone {M M' : wS} (h : Scr M M') (t r e1 e2 k : Nat) (fee n : Int32) : kCost (kAlone M' t) r e1 e2 k fee n = kCost (kAlone M t) r e1 e2 k fee n := by
  unfold kAlone
  rw [h.1 6 t (by decide), h.1 29 0 (by decide)]
  exact kCost_show h _ _ _ _ _ _ _ _ _
theorem kLeast_alone {M M' : wS} (h : Scr M M') (t nb r e1 e2 : Nat) (n : Int32) : kLeast (kAlone M' t) nb r e1 e2 n = kLeast (kAlone M t) nb r e1 e2 n := by
  unfold kLeast
  exact congrArg (fun f => kLeastF f 0 nb (-5)) (funext fun k => by rw [kCost_alone h, (kAlone_scr M' t).1 28 0 (by decide), (kAlone_scr M t).1 28 0 (by decide), h.1 28 0 (by decide)])
theorem kInYear_alone {M M' : wS} (h : Scr M M') (t nb r e1 e2 : Nat) : kInYear (kAlone M' t) nb r e1 e2 = kInYear (kAlone M t) nb r e1 e2 := by
  unfold kInYear
  exact congrArg (fun f => kLeastF f 0 52 (-5)) (funext fun j => kLeast_alone h _ _ _ _ _ _)
theorem lp_X9_year {p : Program} {e : Env} {s : State} {m : MethodId} {args : Array Value} {below : List Frame} {meth : Method} {c : Code} (C : CX p s m args c cX9_year 3 "CostsAge" D cy ad G (wA ad G) (Rm d) d 0 0) (hr : meth.sig.returnType = (some .int)) (hlk : meth.locks = false) (hG : 30 ≤ G) (hd : 7 ≤ d) (M : wS) {nb nt r e1 e2 e3 : Nat} (hP : IP M nb nt r e1 e2 e3) (Qf : Int32 → wS → Prop) : ∀ (n t : Nat) (acc : Int32) (M1 : wS), t + n = nt → Scr M M1 → (∀ M', Scr M M' → Qf (yRun M nb r e1 e2 t n acc) M') → V p l e (Rm d) s m args below meth c 3 D cy ad G (wA ad G) 0 0 (MQ below (wQ D cy ad G (rI Qf)) args s 0 0 (wA ad G)) 4 [(0, .ref (ad 0 0)), (1, .int acc), (2, .int (nI t))] [] M1 := by
  obtain ⟨⟨hnb, hn7⟩, ⟨hnt, ht7⟩, -⟩ := id hP
  intro n
  induction n with
  | zero =>
    intro t acc M1 ht hS hq
    refine V_iload_n (pc := 4) C 2 dX9_year_4 rfl rfl ?_
    refine V_aload_n (pc := 5) C 0 dX9_year_5 rfl rfl ?_
    refine get_X9_124 (pc := 6) C (wg hG (by decide) (by decide)) dX9_year_6 ?_
    refine V_icmp_ge (tgt := 37) (pc := 9) C dX9_year_9 (by decide) (fun h_9 => ?_) (fun h_9 => ?_)
    · refine V_iload_n (pc := 37) C 1 dX9_year_37 rfl rfl ?_
      refine V_iret (pc := 38) C hr hlk dX9_year_38 ⟨_, rfl, ?_⟩
      exact hq M1 hS
    · rw [hS.1 0 0 (by decide), hnt] at h_9
      exact absurd (nI_le (by omega) (by omega)) h_9
  | succ n ih =>
    intro t acc M1 ht hS hq
    have hq2 : ∀ M', Scr M M' → Qf (yRun M nb r e1 e2 (t + 1) n (@ite _ (hasB (M.1 26 0 3) t) (Classical.propDecidable _) acc (acc + (if 0 < kInYear (kAlone M t) nb r e1 e2 then kInYear (kAlone M t) nb r e1 e2 else 0)))) M' := hq
    refine V_iload_n (pc := 4) C 2 dX9_year_4 rfl rfl ?_
    refine V_aload_n (pc := 5) C 0 dX9_year_5 rfl rfl ?_
    refine get_X9_124 (pc := 6) C (wg hG (by decide) (by decide)) dX9_year_6 ?_
    refine V_icmp_ge (tgt := 37) (pc := 9) C dX9_year_9 (by decide) (fun h_9 => ?_) (fun h_9 => ?_)
    · rw [hS.1 0 0 (by decide), hnt] at h_9
      exact absurd h_9 (nI_ge (by omega) (by omega))
    · refine V_aload_n (pc := 12) C 0 dX9_year_12 rfl rfl ?_
      refine V_iload_n (pc := 13) C 2 dX9_year_13 rfl rfl ?_
      refine call_X9_192 (pc := 14) C (c2_X9_showAlone (d := d - 1) hG (by omega) M1 (t := t) (by omega)) (by omega) (wg hG (by decide) (by decide)) (Nat.le_of_ble_eq_true rfl) dX9_year_14 (fun x_14 M_14 h_14 => ?_)
      obtain ⟨rfl, h_t1, h_t0⟩ := h_14
      refine V_if_eq (tgt := 31) (pc := 17) C dX9_year_17 (by decide) (fun h_17 => ?_) (fun h_17 => ?_)
      · have h_17 := bJ_0.mp h_17
        have h_b := Classical.not_not.mp h_17
        have e9 := (h_t0 h_b).symm
        subst e9
        rw [hS.1 26 0 (by decide)] at h_b
        refine Vs_iinc (v := nI (t + 1)) (lv' := [(0, _), (1, _), (2, _)]) (pc := 31) C 2 dX9_year_31 rfl (by decide) rfl (nI_i1 (t)) rfl ?_
        refine V_goto (tgt := 4) (pc := 34) C dX9_year_34 (by decide) ?_
        exact ih (t + 1) _ _ (by omega) hS (by simpa only [if_pos h_b] using hq2)
      · have h_17 := bJ_1.mp h_17
        have e9 := h_t1 h_17
        subst e9
        rw [hS.1 26 0 (by decide)] at h_17
        have hS2 : Scr M (kAlone M1 t) := hS.tr (kAlone_scr M1 t)
        refine V_iload_n (pc := 20) C 1 dX9_year_20 rfl rfl ?_
        refine V_iconst (v := 0) (pc := 21) C dX9_year_21 (by decide) ?_
        refine V_aload_n (pc := 22) C 0 dX9_year_22 rfl rfl ?_
        refine call_X9_290 (pc := 23) C (c_X9_leastInYear (d := d - 1) hG (by omega) (kAlone M1 t) (hP.scr hS2)) (by omega) (wg hG (by decide) (by decide)) (Nat.le_of_ble_eq_true rfl) dX9_year_23 (fun x_23 M_23 h_23 => ?_)
        obtain ⟨hS3, rfl⟩ := h_23
        rw [kInYear_alone hS]
        refine V_mmax (pc := 26) C qm_X9_240 q_maxs qn_java_lang_Math q_maxc (by omega) (Nat.le_of_ble_eq_true rfl) dX9_year_26 ?_
        refine V_iadd (pc := 29) C dX9_year_29 ?_
        refine Vs_istore_n (lv' := [(0, _), (1, _), (2, _)]) (pc := 30) C dX9_year_30 rfl (by decide) rfl rfl ?_
        refine Vs_iinc (v := nI (t + 1)) (lv' := [(0, _), (1, _), (2, _)]) (pc := 31) C 2 dX9_year_31 rfl (by decide) rfl (nI_i1 (t)) rfl ?_
        refine V_goto (tgt := 4) (pc := 34) C dX9_year_34 (by decide) ?_
        exact ih (t + 1) _ _ (by omega) (hS2.tr hS3) (by simpa only [if_neg h_17] using hq2)
theorem c_X9_year (hG : 30 ≤ G) (hd : 7 ≤ d) (M : wS) {nb nt r e1 e2 e3 : Nat} (hP : IP M nb nt r e1 e2 e3) : Ctr l D cy ad G d yX9_year cX9_year 3 (some .int) [.ref (ad 0 0)] M (rI fun x M' => Scr M M' ∧ x = yRun M nb r e1 e2 0 nt 0) := by
  refine Ctr.of (lv0 := [(0, _)]) (by decide) (Nat.le_of_ble_eq_true rfl) rfl ?_
  intro p e s m args below meth c C hr hlk _
  have C : CX p s m args c cX9_year 3 "CostsAge" D cy ad G (wA ad G) (Rm d) d 0 0 := C
  refine V_iconst (v := 0) (pc := 0) C dX9_year_0 (by decide) ?_
  refine Vs_istore_n (lv' := [(0, _), (1, _)]) (pc := 1) C dX9_year_1 rfl (by decide) rfl rfl ?_
  refine V_iconst (v := 0) (pc := 2) C dX9_year_2 (by decide) ?_
  refine Vs_istore_n (lv' := [(0, _), (1, _), (2, _)]) (pc := 3) C dX9_year_3 rfl (by decide) rfl rfl ?_
  exact lp_X9_year C hr hlk hG hd M hP _ nt 0 _ M (by omega) Scr.rf (fun M' h => ⟨h, rfl⟩)
end S19
