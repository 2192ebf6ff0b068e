section S45
variable {l : Launch} {D : va_G} {cy : Nat → ClassId} {ad : Nat → Nat → Nat} {G d : Nat}
/-- a method of the reader reads as the pure F does -/
def RD (l : Launch) (D : va_G) (cy : Nat → ClassId) (ad : Nat → Nat → Nat) (G d : Nat) (y : MethodName) (cc : ByteArray) (nL : Nat) (t : Nat) (f : Nat → Int32) (z : Nat) (o : Int32) (F : rS → rS × List Int32) : Prop :=
  ∀ (M : wS) (q : rS) (cur : List Int32), rSt t f z M q cur → Ctr l D cy ad G d y cc nL none [.ref (ad 11 0), .ref (ad 8 t), .int o] M (rV fun M' => fr8 t M M' ∧ rSt t f z M' (F q).1 (cat cur (F q).2))
theorem gLoop_y {α : Type} {f : Nat → Int32} {z : Nat} {A : gA α} {isOp : Int32 → Bool} {cd : Int32 → Int32} {sub : rS → rS × α} {n : Nat} {r : rS × α} (h : isOp r.1.2.2.1 = true) : gLoop f z A isOp cd sub (n + 1) r = gLoop f z A isOp cd sub n ((sub (nxQ f z r.1)).1, A.2.2.2 (cd r.1.2.2.1) r.2 (sub (nxQ f z r.1)).2) := by rw [gLoop, if_pos h]
theorem gLoop_n {α : Type} {f : Nat → Int32} {z : Nat} {A : gA α} {isOp : Int32 → Bool} {cd : Int32 → Int32} {sub : rS → rS × α} {n : Nat} {r : rS × α} (h : ¬ isOp r.1.2.2.1 = true) : gLoop f z A isOp cd sub (n + 1) r = r := by rw [gLoop, if_neg h]
theorem cA_bin {cur a b : List Int32} {v : Int32} : cat (cat (cat cur a) b) [v] = cat cur (cA.2.2.2 v a b) := by
  rw [cat_cat, cat_cat]
  show cat cur (a ++ (b ++ [v])) = cat cur (a ++ b ++ [v])
  rw [List.append_assoc]
theorem cA_un {cur a : List Int32} {v : Int32} : cat (cat cur a) [v] = cat cur (cA.2.2.1 v a) := cat_cat _ _ _
theorem lp_X3_readTerm {p : Program} {e : Env} {s : State} {m : MethodId} {args : Array Value} {below : List Frame} {meth : Method} {c : Code} (C : CX p s m args c cX3_readTerm 4 "CostsAge$Reader" D cy ad G (wA ad G) (Rm d) d 0 0) (hr : meth.sig.returnType = none) (hlk : meth.locks = false) (hG : 30 ≤ G) (hd : 8 ≤ d) {t : Nat} (ht : t < 6) {f : Nat → Int32} {z : Nat} {o : Int32} {one : rS → rS × List Int32} (h1 : RD l D cy ad G (d - 1) yX3_readOne cX3_readOne 3 t f z o one) (M0 : wS) (cur0 : List Int32) (Qf : wS → Prop) : ∀ (n j : Nat) (M : wS) (r : rS × List Int32), j + n = 160 → fr8 t M0 M → rSt t f z M r.1 (cat cur0 r.2) → (∀ M', fr8 t M0 M' → rSt t f z M' (gLoop f z cA op42 cd42 one n r).1 (cat cur0 (gLoop f z cA op42 cd42 one n r).2) → Qf M') → V p l e (Rm d) s m args below meth c 4 D cy ad G (wA ad G) 0 0 (MQ below (wQ D cy ad G (rV Qf)) args s 0 0 (wA ad G)) 8 [(0, .ref (ad 11 0)), (1, .ref (ad 8 t)), (2, .int o), (3, .int (nI j))] [] M := by
  intro n
  induction n with
  | zero =>
    intro j M r hj hF hR hQ
    refine V_iload_n (pc := 8) C 3 dX3_readTerm_8 rfl rfl ?_
    refine V_sipush (v := 160) (pc := 9) C dX3_readTerm_9 (by decide) ?_
    refine V_icmp_ge (tgt := 47) (pc := 12) C dX3_readTerm_12 (by decide) (fun h_12 => ?_) (fun h_12 => ?_)
    · refine V_vret (pc := 47) C hr hlk dX3_readTerm_47 ⟨rfl, ?_⟩
      exact hQ _ hF hR
    · exact absurd (nI_le (a := 160) (by omega) (by omega)) h_12
  | succ n ih =>
    intro j M r hj hF hR hQ
    have a3 : M.1 11 0 4 = r.1.2.2.1 := hR.1.1.2.2.1
    refine V_iload_n (pc := 8) C 3 dX3_readTerm_8 rfl rfl ?_
    refine V_sipush (v := 160) (pc := 9) C dX3_readTerm_9 (by decide) ?_
    refine V_icmp_ge (tgt := 47) (pc := 12) C dX3_readTerm_12 (by decide) (fun h_12 => ?_) (fun h_12 => ?_)
    · exact absurd h_12 (nI_ge (b := 160) (by omega) (by omega))
    · refine V_aload_n (pc := 15) C 0 dX3_readTerm_15 rfl rfl ?_
      refine get_X3_49 (pc := 16) C (wg hG (by decide) (by decide)) dX3_readTerm_16 ?_
      refine V_bipush (v := 42) (pc := 19) C dX3_readTerm_19 (by decide) ?_
      refine V_icmp_ne (tgt := 47) (pc := 21) C dX3_readTerm_21 (by decide) (fun h_21 => ?_) (fun h_21 => ?_)
      · rw [a3] at h_21
        have hop : ¬ op42 r.1.2.2.1 = true := fun e => h_21 (by simpa [op42] using e)
        refine V_vret (pc := 47) C hr hlk dX3_readTerm_47 ⟨rfl, ?_⟩
        exact hQ _ hF (by rw [gLoop_n hop]; exact hR)
      · rw [a3] at h_21
        have hop : op42 r.1.2.2.1 = true := by simp [op42, h_21]
        refine V_aload_n (pc := 24) C 0 dX3_readTerm_24 rfl rfl ?_
        refine call_X3_28 (pc := 25) C (r_advance (d := d - 1) hG (by omega) hR) (by omega) (wg hG (by decide) (by decide)) (Nat.le_of_ble_eq_true rfl) dX3_readTerm_25 (fun M_25 h_25 => ?_)
        obtain ⟨f1, r1⟩ := h_25
        refine V_aload_n (pc := 28) C 0 dX3_readTerm_28 rfl rfl ?_
        refine V_aload_n (pc := 29) C 1 dX3_readTerm_29 rfl rfl ?_
        refine V_iload_n (pc := 30) C 2 dX3_readTerm_30 rfl rfl ?_
        refine call_X3_82 (pc := 31) C (h1 _ _ _ r1) (by omega) (wg hG (by decide) (by decide)) (Nat.le_of_ble_eq_true rfl) dX3_readTerm_31 (fun M_31 h_31 => ?_)
        obtain ⟨f2, r2⟩ := h_31
        refine V_aload_n (pc := 34) C 0 dX3_readTerm_34 rfl rfl ?_
        refine V_aload_n (pc := 35) C 1 dX3_readTerm_35 rfl rfl ?_
        refine V_bipush (v := -15) (pc := 36) C dX3_readTerm_36 (by decide) ?_
        refine call_X3_66 (pc := 38) C (r_put (d := d - 1) hG ht r2 (-15)) (by omega) (wg hG (by decide) (by decide)) (Nat.le_of_ble_eq_true rfl) dX3_readTerm_38 (fun M_38 h_38 => ?_)
        obtain ⟨f3, r3⟩ := h_38
        refine Vs_iinc (v := nI (j + 1)) (lv' := [(0, _), (1, _), (2, _), (3, _)]) (pc := 41) C 3 dX3_readTerm_41 rfl (by decide) rfl (nI_i1 (j)) rfl ?_
        refine V_goto (tgt := 8) (pc := 44) C dX3_readTerm_44 (by decide) ?_
        refine ih (j + 1) _ ((one (nxQ f z r.1)).1, cA.2.2.2 (cd42 r.1.2.2.1) r.2 (one (nxQ f z r.1)).2) (by omega) (((hF.tr f1).tr f2).tr f3) ?_ ?_
        · rw [cA_bin] at r3
          exact r3
        · intro M' g1 g2
          exact hQ M' g1 (by rw [gLoop_y hop]; exact g2)
theorem rd_readTerm (hG : 30 ≤ G) (hd : 8 ≤ d) {t : Nat} (ht : t < 6) {f : Nat → Int32} {z : Nat} {o : Int32} {one : rS → rS × List Int32} (h1 : RD l D cy ad G (d - 1) yX3_readOne cX3_readOne 3 t f z o one) : RD l D cy ad G d yX3_readTerm cX3_readTerm 4 t f z o (gTerm f z cA one) := by
  intro M q cur hR
  refine Ctr.of (lv0 := [(0, _), (1, _), (2, _)]) (by decide) (Nat.le_of_ble_eq_true rfl) rfl ?_
  intro p e s m args below meth c C hr hlk _
  have C : CX p s m args c cX3_readTerm 4 "CostsAge$Reader" D cy ad G (wA ad G) (Rm d) d 0 0 := C
  refine V_aload_n (pc := 0) C 0 dX3_readTerm_0 rfl rfl ?_
  refine V_aload_n (pc := 1) C 1 dX3_readTerm_1 rfl rfl ?_
  refine V_iload_n (pc := 2) C 2 dX3_readTerm_2 rfl rfl ?_
  refine call_X3_82 (pc := 3) C (h1 M q cur hR) (by omega) (wg hG (by decide) (by decide)) (Nat.le_of_ble_eq_true rfl) dX3_readTerm_3 (fun M_3 h_3 => ?_)
  obtain ⟨f1, r1⟩ := h_3
  refine V_iconst (v := 0) (pc := 6) C dX3_readTerm_6 (by decide) ?_
  refine Vs_istore_n (lv' := [(0, _), (1, _), (2, _), (3, _)]) (pc := 7) C dX3_readTerm_7 rfl (by decide) rfl rfl ?_
  exact lp_X3_readTerm C hr hlk hG hd ht h1 M cur _ 160 0 _ (one q) (by omega) f1 r1 (fun M' g1 g2 => ⟨g1, g2⟩)
theorem lp_X3_readAnd {p : Program} {e : Env} {s : State} {m : MethodId} {args : Array Value} {below : List Frame} {meth : Method} {c : Code} (C : CX p s m args c cX3_readAnd 4 "CostsAge$Reader" D cy ad G (wA ad G) (Rm d) d 0 0) (hr : meth.sig.returnType = none) (hlk : meth.locks = false) (hG : 30 ≤ G) (hd : 11 ≤ d) {t : Nat} (ht : t < 6) {f : Nat → Int32} {z : Nat} {o : Int32} {one : rS → rS × List Int32} (h1 : RD l D cy ad G (d - 1) yX3_readNot cX3_readNot 4 t f z o one) (M0 : wS) (cur0 : List Int32) (Qf : wS → Prop) : ∀ (n j : Nat) (M : wS) (r : rS × List Int32), j + n = 160 → fr8 t M0 M → rSt t f z M r.1 (cat cur0 r.2) → (∀ M', fr8 t M0 M' → rSt t f z M' (gLoop f z cA op7 cd7 one n r).1 (cat cur0 (gLoop f z cA op7 cd7 one n r).2) → Qf M') → V p l e (Rm d) s m args below meth c 4 D cy ad G (wA ad G) 0 0 (MQ below (wQ D cy ad G (rV Qf)) args s 0 0 (wA ad G)) 8 [(0, .ref (ad 11 0)), (1, .ref (ad 8 t)), (2, .int o), (3, .int (nI j))] [] M := by
  intro n
  induction n with
  | zero =>
    intro j M r hj hF hR hQ
    refine V_iload_n (pc := 8) C 3 dX3_readAnd_8 rfl rfl ?_
    refine V_sipush (v := 160) (pc := 9) C dX3_readAnd_9 (by decide) ?_
    refine V_icmp_ge (tgt := 47) (pc := 12) C dX3_readAnd_12 (by decide) (fun h_12 => ?_) (fun h_12 => ?_)
    · refine V_vret (pc := 47) C hr hlk dX3_readAnd_47 ⟨rfl, ?_⟩
      exact hQ _ hF hR
    · exact absurd (nI_le (a := 160) (by omega) (by omega)) h_12
  | succ n ih =>
    intro j M r hj hF hR hQ
    have a3 : M.1 11 0 4 = r.1.2.2.1 := hR.1.1.2.2.1
    refine V_iload_n (pc := 8) C 3 dX3_readAnd_8 rfl rfl ?_
    refine V_sipush (v := 160) (pc := 9) C dX3_readAnd_9 (by decide) ?_
    refine V_icmp_ge (tgt := 47) (pc := 12) C dX3_readAnd_12 (by decide) (fun h_12 => ?_) (fun h_12 => ?_)
    · exact absurd h_12 (nI_ge (b := 160) (by omega) (by omega))
    · refine V_aload_n (pc := 15) C 0 dX3_readAnd_15 rfl rfl ?_
      refine get_X3_49 (pc := 16) C (wg hG (by decide) (by decide)) dX3_readAnd_16 ?_
      refine V_bipush (v := 7) (pc := 19) C dX3_readAnd_19 (by decide) ?_
      refine V_icmp_ne (tgt := 47) (pc := 21) C dX3_readAnd_21 (by decide) (fun h_21 => ?_) (fun h_21 => ?_)
      · rw [a3] at h_21
        have hop : ¬ op7 r.1.2.2.1 = true := fun e => h_21 (by simpa [op7] using e)
        refine V_vret (pc := 47) C hr hlk dX3_readAnd_47 ⟨rfl, ?_⟩
        exact hQ _ hF (by rw [gLoop_n hop]; exact hR)
      · rw [a3] at h_21
        have hop : op7 r.1.2.2.1 = true := by simp [op7, h_21]
        refine V_aload_n (pc := 24) C 0 dX3_readAnd_24 rfl rfl ?_
        refine call_X3_28 (pc := 25) C (r_advance (d := d - 1) hG (by omega) hR) (by omega) (wg hG (by decide) (by decide)) (Nat.le_of_ble_eq_true rfl) dX3_readAnd_25 (fun M_25 h_25 => ?_)
        obtain ⟨f1, r1⟩ := h_25
        refine V_aload_n (pc := 28) C 0 dX3_readAnd_28 rfl rfl ?_
        refine V_aload_n (pc := 29) C 1 dX3_readAnd_29 rfl rfl ?_
        refine V_iload_n (pc := 30) C 2 dX3_readAnd_30 rfl rfl ?_
        refine call_X3_69 (pc := 31) C (h1 _ _ _ r1) (by omega) (wg hG (by decide) (by decide)) (Nat.le_of_ble_eq_true rfl) dX3_readAnd_31 (fun M_31 h_31 => ?_)
        obtain ⟨f2, r2⟩ := h_31
        refine V_aload_n (pc := 34) C 0 dX3_readAnd_34 rfl rfl ?_
        refine V_aload_n (pc := 35) C 1 dX3_readAnd_35 rfl rfl ?_
        refine V_bipush (v := -10) (pc := 36) C dX3_readAnd_36 (by decide) ?_
        refine call_X3_66 (pc := 38) C (r_put (d := d - 1) hG ht r2 (-10)) (by omega) (wg hG (by decide) (by decide)) (Nat.le_of_ble_eq_true rfl) dX3_readAnd_38 (fun M_38 h_38 => ?_)
        obtain ⟨f3, r3⟩ := h_38
        refine Vs_iinc (v := nI (j + 1)) (lv' := [(0, _), (1, _), (2, _), (3, _)]) (pc := 41) C 3 dX3_readAnd_41 rfl (by decide) rfl (nI_i1 (j)) rfl ?_
        refine V_goto (tgt := 8) (pc := 44) C dX3_readAnd_44 (by decide) ?_
        refine ih (j + 1) _ ((one (nxQ f z r.1)).1, cA.2.2.2 (cd7 r.1.2.2.1) r.2 (one (nxQ f z r.1)).2) (by omega) (((hF.tr f1).tr f2).tr f3) ?_ ?_
        · rw [cA_bin] at r3
          exact r3
        · intro M' g1 g2
          exact hQ M' g1 (by rw [gLoop_y hop]; exact g2)
theorem rd_readAnd (hG : 30 ≤ G) (hd : 11 ≤ d) {t : Nat} (ht : t < 6) {f : Nat → Int32} {z : Nat} {o : Int32} {one : rS → rS × List Int32} (h1 : RD l D cy ad G (d - 1) yX3_readNot cX3_readNot 4 t f z o one) : RD l D cy ad G d yX3_readAnd cX3_readAnd 4 t f z o (gAnd f z cA one) := by
  intro M q cur hR
  refine Ctr.of (lv0 := [(0, _), (1, _), (2, _)]) (by decide) (Nat.le_of_ble_eq_true rfl) rfl ?_
  intro p e s m args below meth c C hr hlk _
  have C : CX p s m args c cX3_readAnd 4 "CostsAge$Reader" D cy ad G (wA ad G) (Rm d) d 0 0 := C
  refine V_aload_n (pc := 0) C 0 dX3_readAnd_0 rfl rfl ?_
  refine V_aload_n (pc := 1) C 1 dX3_readAnd_1 rfl rfl ?_
  refine V_iload_n (pc := 2) C 2 dX3_readAnd_2 rfl rfl ?_
  refine call_X3_69 (pc := 3) C (h1 M q cur hR) (by omega) (wg hG (by decide) (by decide)) (Nat.le_of_ble_eq_true rfl) dX3_readAnd_3 (fun M_3 h_3 => ?_)
  obtain ⟨f1, r1⟩ := h_3
  refine V_iconst (v := 0) (pc := 6) C dX3_readAnd_6 (by decide) ?_
  refine Vs_istore_n (lv' := [(0, _), (1, _), (2, _), (3, _)]) (pc := 7) C dX3_readAnd_7 rfl (by decide) rfl rfl ?_
  exact lp_X3_readAnd C hr hlk hG hd ht h1 M cur _ 160 0 _ (one q) (by omega) f1 r1 (fun M' g1 g2 => ⟨g1, g2⟩)
theorem lp_X3_readE {p : Program} {e : Env} {s : State} {m : MethodId} {args : Array Value} {below : List Frame} {meth : Method} {c : Code} (C : CX p s m args c cX3_readE 4 "CostsAge$Reader" D cy ad G (wA ad G) (Rm d) d 0 0) (hr : meth.sig.returnType = none) (hlk : meth.locks = false) (hG : 30 ≤ G) (hd : 12 ≤ d) {t : Nat} (ht : t < 6) {f : Nat → Int32} {z : Nat} {o : Int32} {one : rS → rS × List Int32} (h1 : RD l D cy ad G (d - 1) yX3_readAnd cX3_readAnd 4 t f z o (gAnd f z cA one)) (M0 : wS) (cur0 : List Int32) (Qf : wS → Prop) : ∀ (n j : Nat) (M : wS) (r : rS × List Int32), j + n = 160 → fr8 t M0 M → rSt t f z M r.1 (cat cur0 r.2) → (∀ M', fr8 t M0 M' → rSt t f z M' (gLoop f z cA op6 cd6 (gAnd f z cA one) n r).1 (cat cur0 (gLoop f z cA op6 cd6 (gAnd f z cA one) n r).2) → Qf M') → V p l e (Rm d) s m args below meth c 4 D cy ad G (wA ad G) 0 0 (MQ below (wQ D cy ad G (rV Qf)) args s 0 0 (wA ad G)) 8 [(0, .ref (ad 11 0)), (1, .ref (ad 8 t)), (2, .int o), (3, .int (nI j))] [] M := by
  intro n
  induction n with
  | zero =>
    intro j M r hj hF hR hQ
    refine V_iload_n (pc := 8) C 3 dX3_readE_8 rfl rfl ?_
    refine V_sipush (v := 160) (pc := 9) C dX3_readE_9 (by decide) ?_
    refine V_icmp_ge (tgt := 47) (pc := 12) C dX3_readE_12 (by decide) (fun h_12 => ?_) (fun h_12 => ?_)
    · refine V_vret (pc := 47) C hr hlk dX3_readE_47 ⟨rfl, ?_⟩
      exact hQ _ hF hR
    · exact absurd (nI_le (a := 160) (by omega) (by omega)) h_12
  | succ n ih =>
    intro j M r hj hF hR hQ
    have a3 : M.1 11 0 4 = r.1.2.2.1 := hR.1.1.2.2.1
    refine V_iload_n (pc := 8) C 3 dX3_readE_8 rfl rfl ?_
    refine V_sipush (v := 160) (pc := 9) C dX3_readE_9 (by decide) ?_
    refine V_icmp_ge (tgt := 47) (pc := 12) C dX3_readE_12 (by decide) (fun h_12 => ?_) (fun h_12 => ?_)
    · exact absurd h_12 (nI_ge (b := 160) (by omega) (by omega))
    · refine V_aload_n (pc := 15) C 0 dX3_readE_15 rfl rfl ?_
      refine get_X3_49 (pc := 16) C (wg hG (by decide) (by decide)) dX3_readE_16 ?_
      refine V_bipush (v := 6) (pc := 19) C dX3_readE_19 (by decide) ?_
      refine V_icmp_ne (tgt := 47) (pc := 21) C dX3_readE_21 (by decide) (fun h_21 => ?_) (fun h_21 => ?_)
      · rw [a3] at h_21
        have hop : ¬ op6 r.1.2.2.1 = true := fun e => h_21 (by simpa [op6] using e)
        refine V_vret (pc := 47) C hr hlk dX3_readE_47 ⟨rfl, ?_⟩
        exact hQ _ hF (by rw [gLoop_n hop]; exact hR)
      · rw [a3] at h_21
        have hop : op6 r.1.2.2.1 = true := by simp [op6, h_21]
        refine V_aload_n (pc := 24) C 0 dX3_readE_24 rfl rfl ?_
        refine call_X3_28 (pc := 25) C (r_advance (d := d - 1) hG (by omega) hR) (by omega) (wg hG (by decide) (by decide)) (Nat.le_of_ble_eq_true rfl) dX3_readE_25 (fun M_25 h_25 => ?_)
        obtain ⟨f1, r1⟩ := h_25
        refine V_aload_n (pc := 28) C 0 dX3_readE_28 rfl rfl ?_
        refine V_aload_n (pc := 29) C 1 dX3_readE_29 rfl rfl ?_
        refine V_iload_n (pc := 30) C 2 dX3_readE_30 rfl rfl ?_
        refine call_X3_63 (pc := 31) C (h1 _ _ _ r1) (by omega) (wg hG (by decide) (by decide)) (Nat.le_of_ble_eq_true rfl) dX3_readE_31 (fun M_31 h_31 => ?_)
        obtain ⟨f2, r2⟩ := h_31
        refine V_aload_n (pc := 34) C 0 dX3_readE_34 rfl rfl ?_
        refine V_aload_n (pc := 35) C 1 dX3_readE_35 rfl rfl ?_
        refine V_bipush (v := -9) (pc := 36) C dX3_readE_36 (by decide) ?_
        refine call_X3_66 (pc := 38) C (r_put (d := d - 1) hG ht r2 (-9)) (by omega) (wg hG (by decide) (by decide)) (Nat.le_of_ble_eq_true rfl) dX3_readE_38 (fun M_38 h_38 => ?_)
        obtain ⟨f3, r3⟩ := h_38
        refine Vs_iinc (v := nI (j + 1)) (lv' := [(0, _), (1, _), (2, _), (3, _)]) (pc := 41) C 3 dX3_readE_41 rfl (by decide) rfl (nI_i1 (j)) rfl ?_
        refine V_goto (tgt := 8) (pc := 44) C dX3_readE_44 (by decide) ?_
        refine ih (j + 1) _ (((gAnd f z cA one) (nxQ f z r.1)).1, cA.2.2.2 (cd6 r.1.2.2.1) r.2 ((gAnd f z cA one) (nxQ f z r.1)).2) (by omega) (((hF.tr f1).tr f2).tr f3) ?_ ?_
        · rw [cA_bin] at r3
          exact r3
        · intro M' g1 g2
          exact hQ M' g1 (by rw [gLoop_y hop]; exact g2)
theorem rd_readE (hG : 30 ≤ G) (hd : 12 ≤ d) {t : Nat} (ht : t < 6) {f : Nat → Int32} {z : Nat} {o : Int32} {one : rS → rS × List Int32} (h1 : RD l D cy ad G (d - 1) yX3_readAnd cX3_readAnd 4 t f z o (gAnd f z cA one)) : RD l D cy ad G d yX3_readE cX3_readE 4 t f z o (gE f z cA one) := by
  intro M q cur hR
  refine Ctr.of (lv0 := [(0, _), (1, _), (2, _)]) (by decide) (Nat.le_of_ble_eq_true rfl) rfl ?_
  intro p e s m args below meth c C hr hlk _
  have C : CX p s m args c cX3_readE 4 "CostsAge$Reader" D cy ad G (wA ad G) (Rm d) d 0 0 := C
  refine V_aload_n (pc := 0) C 0 dX3_readE_0 rfl rfl ?_
  refine V_aload_n (pc := 1) C 1 dX3_readE_1 rfl rfl ?_
  refine V_iload_n (pc := 2) C 2 dX3_readE_2 rfl rfl ?_
  refine call_X3_63 (pc := 3) C (h1 M q cur hR) (by omega) (wg hG (by decide) (by decide)) (Nat.le_of_ble_eq_true rfl) dX3_readE_3 (fun M_3 h_3 => ?_)
  obtain ⟨f1, r1⟩ := h_3
  refine V_iconst (v := 0) (pc := 6) C dX3_readE_6 (by decide) ?_
  refine Vs_istore_n (lv' := [(0, _), (1, _), (2, _), (3, _)]) (pc := 7) C dX3_readE_7 rfl (by decide) rfl rfl ?_
  exact lp_X3_readE C hr hlk hG hd ht h1 M cur _ 160 0 _ ((gAnd f z cA one) q) (by omega) f1 r1 (fun M' g1 g2 => ⟨g1, g2⟩)
theorem opPM_t {v : Int32} : opPM v = true ↔ v = 43 ∨ v = 45 := by simp [opPM]
theorem lp_X3_readSum {p : Program} {e : Env} {s : State} {m : MethodId} {args : Array Value} {below : List Frame} {meth : Method} {c : Code} (C : CX p s m args c cX3_readSum 5 "CostsAge$Reader" D cy ad G (wA ad G) (Rm d) d 0 0) (hr : meth.sig.returnType = none) (hlk : meth.locks = false) (hG : 30 ≤ G) (hd : 9 ≤ d) {t : Nat} (ht : t < 6) {f : Nat → Int32} {z : Nat} {o : Int32} {one : rS → rS × List Int32} (h1 : RD l D cy ad G (d - 1) yX3_readTerm cX3_readTerm 4 t f z o (gTerm f z cA one)) (M0 : wS) (cur0 : List Int32) (Qf : wS → Prop) : ∀ (n j : Nat) (M : wS) (r : rS × List Int32), j + n = 160 → fr8 t M0 M → rSt t f z M r.1 (cat cur0 r.2) → (∀ M', fr8 t M0 M' → rSt t f z M' (gLoop f z cA opPM cdPM (gTerm f z cA one) n r).1 (cat cur0 (gLoop f z cA opPM cdPM (gTerm f z cA one) n r).2) → Qf M') → V p l e (Rm d) s m args below meth c 5 D cy ad G (wA ad G) 0 0 (MQ below (wQ D cy ad G (rV Qf)) args s 0 0 (wA ad G)) 8 [(0, .ref (ad 11 0)), (1, .ref (ad 8 t)), (2, .int o), (3, .int (nI j))] [] M := by
  intro n
  induction n with
  | zero =>
    intro j M r hj hF hR hQ
    refine V_iload_n (pc := 8) C 3 dX3_readSum_8 rfl rfl ?_
    refine V_sipush (v := 160) (pc := 9) C dX3_readSum_9 (by decide) ?_
    refine V_icmp_ge (tgt := 74) (pc := 12) C dX3_readSum_12 (by decide) (fun h_12 => ?_) (fun h_12 => ?_)
    · refine V_vret (pc := 74) C hr hlk dX3_readSum_74 ⟨rfl, ?_⟩
      exact hQ _ hF hR
    · exact absurd (nI_le (a := 160) (by omega) (by omega)) h_12
  | succ n ih =>
    intro j M r hj hF hR hQ
    have a3 : M.1 11 0 4 = r.1.2.2.1 := hR.1.1.2.2.1
    refine V_iload_n (pc := 8) C 3 dX3_readSum_8 rfl rfl ?_
    refine V_sipush (v := 160) (pc := 9) C dX3_readSum_9 (by decide) ?_
    refine V_icmp_ge (tgt := 74) (pc := 12) C dX3_readSum_12 (by decide) (fun h_12 => ?_) (fun h_12 => ?_)
    · exact absurd h_12 (nI_ge (b := 160) (by omega) (by omega))
    · refine V_aload_n (pc := 15) C 0 dX3_readSum_15 rfl rfl ?_
      refine get_X3_49 (pc := 16) C (wg hG (by decide) (by decide)) dX3_readSum_16 ?_
      refine V_bipush (v := 43) (pc := 19) C dX3_readSum_19 (by decide) ?_
      refine V_icmp_eq (tgt := 33) (pc := 21) C dX3_readSum_21 (by decide) (fun h_21 => ?_) (fun h_21 => ?_)
      · rw [a3] at h_21
        have hop : opPM r.1.2.2.1 = true := opPM_t.mpr (Or.inl h_21)
        have hcd : cdPM r.1.2.2.1 = -13 := by rw [cdPM, if_pos h_21]
        refine V_aload_n (pc := 33) C 0 dX3_readSum_33 rfl rfl ?_
        refine get_X3_49 (pc := 34) C (wg hG (by decide) (by decide)) dX3_readSum_34 ?_
        refine V_bipush (v := 43) (pc := 37) C dX3_readSum_37 (by decide) ?_
        refine V_icmp_ne (tgt := 47) (pc := 39) C dX3_readSum_39 (by decide) (fun h_39 => ?_) (fun h_39 => ?_)
        · rw [a3] at h_39
          exact absurd h_21 h_39
        · refine V_bipush (v := -13) (pc := 42) C dX3_readSum_42 (by decide) ?_
          refine V_goto (tgt := 49) (pc := 44) C dX3_readSum_44 (by decide) ?_
          refine Vs_istore (lv' := [(0, _), (1, _), (2, _), (3, _), (4, _)]) (pc := 49) C dX3_readSum_49 (by decide) rfl rfl ?_
          refine V_aload_n (pc := 51) C 0 dX3_readSum_51 rfl rfl ?_
          refine call_X3_28 (pc := 52) C (r_advance (d := d - 1) hG (by omega) hR) (by omega) (wg hG (by decide) (by decide)) (Nat.le_of_ble_eq_true rfl) dX3_readSum_52 (fun M_52 h_52 => ?_)
          obtain ⟨f1, r1⟩ := h_52
          refine V_aload_n (pc := 55) C 0 dX3_readSum_55 rfl rfl ?_
          refine V_aload_n (pc := 56) C 1 dX3_readSum_56 rfl rfl ?_
          refine V_iload_n (pc := 57) C 2 dX3_readSum_57 rfl rfl ?_
          refine call_X3_79 (pc := 58) C (h1 _ _ _ r1) (by omega) (wg hG (by decide) (by decide)) (Nat.le_of_ble_eq_true rfl) dX3_readSum_58 (fun M_58 h_58 => ?_)
          obtain ⟨f2, r2⟩ := h_58
          refine V_aload_n (pc := 61) C 0 dX3_readSum_61 rfl rfl ?_
          refine V_aload_n (pc := 62) C 1 dX3_readSum_62 rfl rfl ?_
          refine V_iload (pc := 63) C 4 dX3_readSum_63 rfl ?_
          refine call_X3_66 (pc := 65) C (r_put (d := d - 1) hG ht r2 _) (by omega) (wg hG (by decide) (by decide)) (Nat.le_of_ble_eq_true rfl) dX3_readSum_65 (fun M_65 h_65 => ?_)
          obtain ⟨f3, r3⟩ := h_65
          refine Vs_iinc (v := nI (j + 1)) (lv' := [(0, _), (1, _), (2, _), (3, _), (4, _)]) (pc := 68) C 3 dX3_readSum_68 rfl (by decide) rfl (nI_i1 (j)) rfl ?_
          refine V_goto (tgt := 8) (pc := 71) C dX3_readSum_71 (by decide) ?_
          refine V_loc (lv' := [(0, _), (1, _), (2, _), (3, _)]) [0, 1, 2, 3] rfl ?_
          refine ih (j + 1) _ ((gTerm f z cA one (nxQ f z r.1)).1, cA.2.2.2 (cdPM r.1.2.2.1) r.2 (gTerm f z cA one (nxQ f z r.1)).2) (by omega) (((hF.tr f1).tr f2).tr f3) ?_ ?_
          · rw [cA_bin, ← hcd] at r3
            exact r3
          · intro M' g1 g2
            exact hQ M' g1 (by rw [gLoop_y hop]; exact g2)
      · rw [a3] at h_21
        refine V_aload_n (pc := 24) C 0 dX3_readSum_24 rfl rfl ?_
        refine get_X3_49 (pc := 25) C (wg hG (by decide) (by decide)) dX3_readSum_25 ?_
        refine V_bipush (v := 45) (pc := 28) C dX3_readSum_28 (by decide) ?_
        refine V_icmp_ne (tgt := 74) (pc := 30) C dX3_readSum_30 (by decide) (fun h_30 => ?_) (fun h_30 => ?_)
        · rw [a3] at h_30
          have hop : ¬ opPM r.1.2.2.1 = true := fun e => (opPM_t.mp e).elim h_21 h_30
          refine V_vret (pc := 74) C hr hlk dX3_readSum_74 ⟨rfl, ?_⟩
          exact hQ _ hF (by rw [gLoop_n hop]; exact hR)
        · rw [a3] at h_30
          have hop : opPM r.1.2.2.1 = true := opPM_t.mpr (Or.inr h_30)
          have hcd : cdPM r.1.2.2.1 = -14 := by rw [cdPM, if_neg h_21]
          refine V_aload_n (pc := 33) C 0 dX3_readSum_33 rfl rfl ?_
          refine get_X3_49 (pc := 34) C (wg hG (by decide) (by decide)) dX3_readSum_34 ?_
          refine V_bipush (v := 43) (pc := 37) C dX3_readSum_37 (by decide) ?_
          refine V_icmp_ne (tgt := 47) (pc := 39) C dX3_readSum_39 (by decide) (fun h_39 => ?_) (fun h_39 => ?_)
          · refine V_bipush (v := -14) (pc := 47) C dX3_readSum_47 (by decide) ?_
            refine Vs_istore (lv' := [(0, _), (1, _), (2, _), (3, _), (4, _)]) (pc := 49) C dX3_readSum_49 (by decide) rfl rfl ?_
            refine V_aload_n (pc := 51) C 0 dX3_readSum_51 rfl rfl ?_
            refine call_X3_28 (pc := 52) C (r_advance (d := d - 1) hG (by omega) hR) (by omega) (wg hG (by decide) (by decide)) (Nat.le_of_ble_eq_true rfl) dX3_readSum_52 (fun M_52 h_52 => ?_)
            obtain ⟨f1, r1⟩ := h_52
            refine V_aload_n (pc := 55) C 0 dX3_readSum_55 rfl rfl ?_
            refine V_aload_n (pc := 56) C 1 dX3_readSum_56 rfl rfl ?_
            refine V_iload_n (pc := 57) C 2 dX3_readSum_57 rfl rfl ?_
            refine call_X3_79 (pc := 58) C (h1 _ _ _ r1) (by omega) (wg hG (by decide) (by decide)) (Nat.le_of_ble_eq_true rfl) dX3_readSum_58 (fun M_58 h_58 => ?_)
            obtain ⟨f2, r2⟩ := h_58
            refine V_aload_n (pc := 61) C 0 dX3_readSum_61 rfl rfl ?_
            refine V_aload_n (pc := 62) C 1 dX3_readSum_62 rfl rfl ?_
            refine V_iload (pc := 63) C 4 dX3_readSum_63 rfl ?_
            refine call_X3_66 (pc := 65) C (r_put (d := d - 1) hG ht r2 _) (by omega) (wg hG (by decide) (by decide)) (Nat.le_of_ble_eq_true rfl) dX3_readSum_65 (fun M_65 h_65 => ?_)
            obtain ⟨f3, r3⟩ := h_65
            refine Vs_iinc (v := nI (j + 1)) (lv' := [(0, _), (1, _), (2, _), (3, _), (4, _)]) (pc := 68) C 3 dX3_readSum_68 rfl (by decide) rfl (nI_i1 (j)) rfl ?_
            refine V_goto (tgt := 8) (pc := 71) C dX3_readSum_71 (by decide) ?_
            refine V_loc (lv' := [(0, _), (1, _), (2, _), (3, _)]) [0, 1, 2, 3] rfl ?_
            refine ih (j + 1) _ ((gTerm f z cA one (nxQ f z r.1)).1, cA.2.2.2 (cdPM r.1.2.2.1) r.2 (gTerm f z cA one (nxQ f z r.1)).2) (by omega) (((hF.tr f1).tr f2).tr f3) ?_ ?_
            · rw [cA_bin, ← hcd] at r3
              exact r3
            · intro M' g1 g2
              exact hQ M' g1 (by rw [gLoop_y hop]; exact g2)
          · rw [a3] at h_39
            exact absurd h_39 h_21
theorem rd_readSum (hG : 30 ≤ G) (hd : 9 ≤ d) {t : Nat} (ht : t < 6) {f : Nat → Int32} {z : Nat} {o : Int32} {one : rS → rS × List Int32} (h1 : RD l D cy ad G (d - 1) yX3_readTerm cX3_readTerm 4 t f z o (gTerm f z cA one)) : RD l D cy ad G d yX3_readSum cX3_readSum 5 t f z o (gSum f z cA one) := by
  intro M q cur hR
  refine Ctr.of (lv0 := [(0, _), (1, _), (2, _)]) (by decide) (Nat.le_of_ble_eq_true rfl) rfl ?_
  intro p e s m args below meth c C hr hlk _
  have C : CX p s m args c cX3_readSum 5 "CostsAge$Reader" D cy ad G (wA ad G) (Rm d) d 0 0 := C
  refine V_aload_n (pc := 0) C 0 dX3_readSum_0 rfl rfl ?_
  refine V_aload_n (pc := 1) C 1 dX3_readSum_1 rfl rfl ?_
  refine V_iload_n (pc := 2) C 2 dX3_readSum_2 rfl rfl ?_
  refine call_X3_79 (pc := 3) C (h1 M q cur hR) (by omega) (wg hG (by decide) (by decide)) (Nat.le_of_ble_eq_true rfl) dX3_readSum_3 (fun M_3 h_3 => ?_)
  obtain ⟨f1, r1⟩ := h_3
  refine V_iconst (v := 0) (pc := 6) C dX3_readSum_6 (by decide) ?_
  refine Vs_istore_n (lv' := [(0, _), (1, _), (2, _), (3, _)]) (pc := 7) C dX3_readSum_7 rfl (by decide) rfl rfl ?_
  exact lp_X3_readSum C hr hlk hG hd ht h1 M cur _ 160 0 _ (gTerm f z cA one q) (by omega) f1 r1 (fun M' g1 g2 => ⟨g1, g2⟩)
theorem l2_X3_readNot {p : Program} {e : Env} {s : State} {m : MethodId} {args : Array Value} {below : List Frame} {meth : Method} {c : Code} (C : CX p s m args c cX3_readNot 4 "CostsAge$Reader" D cy ad G (wA ad G) (Rm d) d 0 0) (hr : meth.sig.returnType = none) (hlk : meth.locks = false) (hG : 30 ≤ G) (hd : 10 ≤ d) {t : Nat} (ht : t < 6) {f : Nat → Int32} {z : Nat} {o : Int32} {one : rS → rS × List Int32} (h1 : RD l D cy ad G (d - 1) yX3_readSum cX3_readSum 5 t f z o (gSum f z cA one)) {M : wS} {q : rS} {cur : List Int32} (hR : rSt t f z M q cur) (Qf : wS → Prop) (hQ : ∀ M', fr8 t M M' → rSt t f z M' (gCmp2 f z cA (gSum f z cA one) (gSum f z cA one q)).1 (cat cur (gCmp2 f z cA (gSum f z cA one) (gSum f z cA one q)).2) → Qf M') : V p l e (Rm d) s m args below meth c 4 D cy ad G (wA ad G) 0 0 (MQ below (wQ D cy ad G (rV Qf)) args s 0 0 (wA ad G)) 37 [(0, .ref (ad 11 0)), (1, .ref (ad 8 t)), (2, .int o)] [] M := by
  refine V_aload_n (pc := 37) C 0 dX3_readNot_37 rfl rfl ?_
  refine V_aload_n (pc := 38) C 1 dX3_readNot_38 rfl rfl ?_
  refine V_iload_n (pc := 39) C 2 dX3_readNot_39 rfl rfl ?_
  refine call_X3_76 (pc := 40) C (h1 M q cur hR) (by omega) (wg hG (by decide) (by decide)) (Nat.le_of_ble_eq_true rfl) dX3_readNot_40 (fun M_40 h_40 => ?_)
  obtain ⟨f1, r1⟩ := h_40
  have a3 : M_40.1 11 0 4 = (gSum f z cA one q).1.2.2.1 := r1.1.1.2.2.1
  refine V_aload_n (pc := 43) C 0 dX3_readNot_43 rfl rfl ?_
  refine get_X3_49 (pc := 44) C (wg hG (by decide) (by decide)) dX3_readNot_44 ?_
  refine V_bipush (v := 60) (pc := 47) C dX3_readNot_47 (by decide) ?_
  refine V_icmp_eq (tgt := 61) (pc := 49) C dX3_readNot_49 (by decide) (fun h_49 => ?_) (fun h_49 => ?_)
  · rw [a3] at h_49
    have hop := (Or.inl h_49 : (gSum f z cA one q).1.2.2.1 = 60 ∨ (gSum f z cA one q).1.2.2.1 = 61)
    have hcd : cdC (gSum f z cA one q).1.2.2.1 = -11 := by rw [cdC, if_pos h_49]
    refine V_aload_n (pc := 61) C 0 dX3_readNot_61 rfl rfl ?_
    refine get_X3_49 (pc := 62) C (wg hG (by decide) (by decide)) dX3_readNot_62 ?_
    refine V_bipush (v := 60) (pc := 65) C dX3_readNot_65 (by decide) ?_
    refine V_icmp_ne (tgt := 75) (pc := 67) C dX3_readNot_67 (by decide) (fun h_67 => ?_) (fun h_67 => ?_)
    · rw [a3] at h_67
      exact absurd h_49 h_67
    · refine V_bipush (v := -11) (pc := 70) C dX3_readNot_70 (by decide) ?_
      refine V_goto (tgt := 77) (pc := 72) C dX3_readNot_72 (by decide) ?_
      refine Vs_istore_n (lv' := [(0, _), (1, _), (2, _), (3, _)]) (pc := 77) C dX3_readNot_77 rfl (by decide) rfl rfl ?_
      refine V_aload_n (pc := 78) C 0 dX3_readNot_78 rfl rfl ?_
      refine call_X3_28 (pc := 79) C (r_advance (d := d - 1) hG (by omega) r1) (by omega) (wg hG (by decide) (by decide)) (Nat.le_of_ble_eq_true rfl) dX3_readNot_79 (fun M_79 h_79 => ?_)
      obtain ⟨f2, r2⟩ := h_79
      refine V_aload_n (pc := 82) C 0 dX3_readNot_82 rfl rfl ?_
      refine V_aload_n (pc := 83) C 1 dX3_readNot_83 rfl rfl ?_
      refine V_iload_n (pc := 84) C 2 dX3_readNot_84 rfl rfl ?_
      refine call_X3_76 (pc := 85) C (h1 _ _ _ r2) (by omega) (wg hG (by decide) (by decide)) (Nat.le_of_ble_eq_true rfl) dX3_readNot_85 (fun M_85 h_85 => ?_)
      obtain ⟨f3, r3⟩ := h_85
      refine V_aload_n (pc := 88) C 0 dX3_readNot_88 rfl rfl ?_
      refine V_aload_n (pc := 89) C 1 dX3_readNot_89 rfl rfl ?_
      refine V_iload_n (pc := 90) C 3 dX3_readNot_90 rfl rfl ?_
      refine call_X3_66 (pc := 91) C (r_put (d := d - 1) hG ht r3 _) (by omega) (wg hG (by decide) (by decide)) (Nat.le_of_ble_eq_true rfl) dX3_readNot_91 (fun M_91 h_91 => ?_)
      obtain ⟨f4, r4⟩ := h_91
      refine V_vret (pc := 94) C hr hlk dX3_readNot_94 ⟨rfl, ?_⟩
      first | exact hQ _ f1 (by rw [gCmp2, if_neg hop]; exact r1) | exact hQ _ (((f1.tr f2).tr f3).tr f4) (by rw [cA_bin, ← hcd] at r4; rw [gCmp2, if_pos hop]; exact r4)
  · rw [a3] at h_49
    refine V_aload_n (pc := 52) C 0 dX3_readNot_52 rfl rfl ?_
    refine get_X3_49 (pc := 53) C (wg hG (by decide) (by decide)) dX3_readNot_53 ?_
    refine V_bipush (v := 61) (pc := 56) C dX3_readNot_56 (by decide) ?_
    refine V_icmp_ne (tgt := 94) (pc := 58) C dX3_readNot_58 (by decide) (fun h_58 => ?_) (fun h_58 => ?_)
    · rw [a3] at h_58
      have hop : ¬ ((gSum f z cA one q).1.2.2.1 = 60 ∨ (gSum f z cA one q).1.2.2.1 = 61) := fun e => e.elim h_49 h_58
      refine V_vret (pc := 94) C hr hlk dX3_readNot_94 ⟨rfl, ?_⟩
      first | exact hQ _ f1 (by rw [gCmp2, if_neg hop]; exact r1) | exact hQ _ (((f1.tr f2).tr f3).tr f4) (by rw [cA_bin, ← hcd] at r4; rw [gCmp2, if_pos hop]; exact r4)
    · rw [a3] at h_58
      have hop := (Or.inr h_58 : (gSum f z cA one q).1.2.2.1 = 60 ∨ (gSum f z cA one q).1.2.2.1 = 61)
      have hcd : cdC (gSum f z cA one q).1.2.2.1 = -12 := by rw [cdC, if_neg h_49]
      refine V_aload_n (pc := 61) C 0 dX3_readNot_61 rfl rfl ?_
      refine get_X3_49 (pc := 62) C (wg hG (by decide) (by decide)) dX3_readNot_62 ?_
      refine V_bipush (v := 60) (pc := 65) C dX3_readNot_65 (by decide) ?_
      refine V_icmp_ne (tgt := 75) (pc := 67) C dX3_readNot_67 (by decide) (fun h_67 => ?_) (fun h_67 => ?_)
      · refine V_bipush (v := -12) (pc := 75) C dX3_readNot_75 (by decide) ?_
        refine Vs_istore_n (lv' := [(0, _), (1, _), (2, _), (3, _)]) (pc := 77) C dX3_readNot_77 rfl (by decide) rfl rfl ?_
        refine V_aload_n (pc := 78) C 0 dX3_readNot_78 rfl rfl ?_
        refine call_X3_28 (pc := 79) C (r_advance (d := d - 1) hG (by omega) r1) (by omega) (wg hG (by decide) (by decide)) (Nat.le_of_ble_eq_true rfl) dX3_readNot_79 (fun M_79 h_79 => ?_)
        obtain ⟨f2, r2⟩ := h_79
        refine V_aload_n (pc := 82) C 0 dX3_readNot_82 rfl rfl ?_
        refine V_aload_n (pc := 83) C 1 dX3_readNot_83 rfl rfl ?_
        refine V_iload_n (pc := 84) C 2 dX3_readNot_84 rfl rfl ?_
        refine call_X3_76 (pc := 85) C (h1 _ _ _ r2) (by omega) (wg hG (by decide) (by decide)) (Nat.le_of_ble_eq_true rfl) dX3_readNot_85 (fun M_85 h_85 => ?_)
        obtain ⟨f3, r3⟩ := h_85
        refine V_aload_n (pc := 88) C 0 dX3_readNot_88 rfl rfl ?_
        refine V_aload_n (pc := 89) C 1 dX3_readNot_89 rfl rfl ?_
        refine V_iload_n (pc := 90) C 3 dX3_readNot_90 rfl rfl ?_
        refine call_X3_66 (pc := 91) C (r_put (d := d - 1) hG ht r3 _) (by omega) (wg hG (by decide) (by decide)) (Nat.le_of_ble_eq_true rfl) dX3_readNot_91 (fun M_91 h_91 => ?_)
        obtain ⟨f4, r4⟩ := h_91
        refine V_vret (pc := 94) C hr hlk dX3_readNot_94 ⟨rfl, ?_⟩
        first | exact hQ _ f1 (by rw [gCmp2, if_neg hop]; exact r1) | exact hQ _ (((f1.tr f2).tr f3).tr f4) (by rw [cA_bin, ← hcd] at r4; rw [gCmp2, if_pos hop]; exact r4)
      · rw [a3] at h_67
        exact absurd h_67 h_49
theorem rd_readNot (hG : 30 ≤ G) (hd : 10 ≤ d) {t : Nat} (ht : t < 6) {f : Nat → Int32} {z : Nat} {o : Int32} {ok : Bool} (hok : ok = true ↔ o < 5) {one rn : rS → rS × List Int32} (h1 : RD l D cy ad G (d - 1) yX3_readSum cX3_readSum 5 t f z o (gSum f z cA one)) (h2 : ok = true → RD l D cy ad G (d - 1) yX3_readNot cX3_readNot 4 t f z (o + 1) rn) : RD l D cy ad G d yX3_readNot cX3_readNot 4 t f z o (gNotF f z cA ok rn one) := by
  intro M q cur hR
  have a3 : M.1 11 0 4 = q.2.2.1 := hR.1.1.2.2.1
  refine Ctr.of (lv0 := [(0, _), (1, _), (2, _)]) (by decide) (Nat.le_of_ble_eq_true rfl) rfl ?_
  intro p e s m args below meth c C hr hlk _
  have C : CX p s m args c cX3_readNot 4 "CostsAge$Reader" D cy ad G (wA ad G) (Rm d) d 0 0 := C
  refine V_aload_n (pc := 0) C 0 dX3_readNot_0 rfl rfl ?_
  refine get_X3_49 (pc := 1) C (wg hG (by decide) (by decide)) dX3_readNot_1 ?_
  refine V_bipush (v := 8) (pc := 4) C dX3_readNot_4 (by decide) ?_
  refine V_icmp_ne (tgt := 37) (pc := 6) C dX3_readNot_6 (by decide) (fun h_6 => ?_) (fun h_6 => ?_)
  · rw [a3] at h_6
    exact l2_X3_readNot C hr hlk hG hd ht h1 hR _ (fun M' g1 g2 => ⟨g1, by rw [gNotF, if_neg h_6]; exact g2⟩)
  · rw [a3] at h_6
    refine V_aload_n (pc := 9) C 0 dX3_readNot_9 rfl rfl ?_
    refine V_iload_n (pc := 10) C 2 dX3_readNot_10 rfl rfl ?_
    refine call_X3_72 (pc := 11) C (r_mayOpen (d := d - 1) hG (by omega) hR o) (by omega) (wg hG (by decide) (by decide)) (Nat.le_of_ble_eq_true rfl) dX3_readNot_11 (fun x_11 M_11 h_11 => ?_)
    obtain ⟨e_11, f1, r1⟩ := h_11
    subst e_11
    refine V_if_eq (tgt := 36) (pc := 14) C dX3_readNot_14 (by decide) (fun h_14 => ?_) (fun h_14 => ?_)
    · have h_14 := bJ_0.mp h_14
      rw [if_neg h_14] at r1
      have hk : ¬ ok = true := fun e => h_14 (hok.mp e)
      refine V_vret (pc := 36) C hr hlk dX3_readNot_36 ⟨rfl, ?_⟩
      first | (refine ⟨f1, ?_⟩; rw [gNotF, if_pos h_6, if_neg hk]; rw [show cat cur cA.2.1 = cur from cat_nil hR.2.2.2.2.2.1]; exact r1) | (refine ⟨((f1.tr f2).tr f3).tr f4, ?_⟩; rw [gNotF, if_pos h_6, if_pos hk]; rw [cA_un] at r4; exact r4)
    · have h_14 := bJ_1.mp h_14
      rw [if_pos h_14] at r1
      have hk : ok = true := hok.mpr h_14
      refine V_aload_n (pc := 17) C 0 dX3_readNot_17 rfl rfl ?_
      refine call_X3_28 (pc := 18) C (r_advance (d := d - 1) hG (by omega) r1) (by omega) (wg hG (by decide) (by decide)) (Nat.le_of_ble_eq_true rfl) dX3_readNot_18 (fun M_18 h_18 => ?_)
      obtain ⟨f2, r2⟩ := h_18
      refine V_aload_n (pc := 21) C 0 dX3_readNot_21 rfl rfl ?_
      refine V_aload_n (pc := 22) C 1 dX3_readNot_22 rfl rfl ?_
      refine V_iload_n (pc := 23) C 2 dX3_readNot_23 rfl rfl ?_
      refine V_iconst (v := 1) (pc := 24) C dX3_readNot_24 (by decide) ?_
      refine V_iadd (pc := 25) C dX3_readNot_25 ?_
      refine call_X3_69 (pc := 26) C (h2 hk _ _ _ r2) (by omega) (wg hG (by decide) (by decide)) (Nat.le_of_ble_eq_true rfl) dX3_readNot_26 (fun M_26 h_26 => ?_)
      obtain ⟨f3, r3⟩ := h_26
      refine V_aload_n (pc := 29) C 0 dX3_readNot_29 rfl rfl ?_
      refine V_aload_n (pc := 30) C 1 dX3_readNot_30 rfl rfl ?_
      refine V_bipush (v := -7) (pc := 31) C dX3_readNot_31 (by decide) ?_
      refine call_X3_66 (pc := 33) C (r_put (d := d - 1) hG ht r3 _) (by omega) (wg hG (by decide) (by decide)) (Nat.le_of_ble_eq_true rfl) dX3_readNot_33 (fun M_33 h_33 => ?_)
      obtain ⟨f4, r4⟩ := h_33
      refine V_vret (pc := 36) C hr hlk dX3_readNot_36 ⟨rfl, ?_⟩
      first | (refine ⟨f1, ?_⟩; rw [gNotF, if_pos h_6, if_neg hk]; rw [show cat cur cA.2.1 = cur from cat_nil hR.2.2.2.2.2.1]; exact r1) | (refine ⟨((f1.tr f2).tr f3).tr f4, ?_⟩; rw [gNotF, if_pos h_6, if_pos hk]; rw [cA_un] at r4; exact r4)
theorem rd_readOne (hG : 30 ≤ G) (hd : 8 ≤ d) {t : Nat} (ht : t < 6) {f : Nat → Int32} {z : Nat} {o : Int32} {ok : Bool} (hok : ok = true ↔ o < 5) {ro re : rS → rS × List Int32} (h1 : ok = true → RD l D cy ad G (d - 1) yX3_readOne cX3_readOne 3 t f z (o + 1) ro) (h2 : ok = true → RD l D cy ad G (d - 1) yX3_readE cX3_readE 4 t f z (o + 1) re) : RD l D cy ad G d yX3_readOne cX3_readOne 3 t f z o (gOneF f z cA ok ro re) := by
  intro M q cur hR
  have a3 : M.1 11 0 4 = q.2.2.1 := hR.1.1.2.2.1
  have hn : cat cur cA.2.1 = cur := cat_nil hR.2.2.2.2.2.1
  refine Ctr.of (lv0 := [(0, _), (1, _), (2, _)]) (by decide) (Nat.le_of_ble_eq_true rfl) rfl ?_
  intro p e s m args below meth c C hr hlk _
  have C : CX p s m args c cX3_readOne 3 "CostsAge$Reader" D cy ad G (wA ad G) (Rm d) d 0 0 := C
  refine V_aload_n (pc := 0) C 0 dX3_readOne_0 rfl rfl ?_
  refine get_X3_49 (pc := 1) C (wg hG (by decide) (by decide)) dX3_readOne_1 ?_
  refine V_iconst (v := 1) (pc := 4) C dX3_readOne_4 (by decide) ?_
  refine V_icmp_eq (tgt := 16) (pc := 5) C dX3_readOne_5 (by decide) (fun h_5 => ?_) (fun h_5 => ?_)
  · rw [a3] at h_5
    have h12 := (Or.inl h_5 : q.2.2.1 = 1 ∨ q.2.2.1 = 2)
    have hpc : M.1 11 0 5 = q.2.2.2.1 := hR.1.1.2.2.2 h12
    refine V_aload_n (pc := 16) C 0 dX3_readOne_16 rfl rfl ?_
    refine V_aload_n (pc := 17) C 1 dX3_readOne_17 rfl rfl ?_
    refine V_aload_n (pc := 18) C 0 dX3_readOne_18 rfl rfl ?_
    refine get_X3_85 (pc := 19) C (wg hG (by decide) (by decide)) dX3_readOne_19 ?_
    rw [hpc]
    refine call_X3_66 (pc := 22) C (r_put (d := d - 1) hG ht hR _) (by omega) (wg hG (by decide) (by decide)) (Nat.le_of_ble_eq_true rfl) dX3_readOne_22 (fun M_22 h_22 => ?_)
    obtain ⟨f1, r1⟩ := h_22
    refine V_aload_n (pc := 25) C 0 dX3_readOne_25 rfl rfl ?_
    refine call_X3_28 (pc := 26) C (r_advance (d := d - 1) hG (by omega) r1) (by omega) (wg hG (by decide) (by decide)) (Nat.le_of_ble_eq_true rfl) dX3_readOne_26 (fun M_26 h_26 => ?_)
    obtain ⟨f2, r2⟩ := h_26
    refine V_goto (tgt := 113) (pc := 29) C dX3_readOne_29 (by decide) ?_
    refine V_vret (pc := 113) C hr hlk dX3_readOne_113 ⟨rfl, ?_⟩
    exact ⟨f1.tr f2, by rw [gOneF, if_pos h12]; exact r2⟩
  · rw [a3] at h_5
    refine V_aload_n (pc := 8) C 0 dX3_readOne_8 rfl rfl ?_
    refine get_X3_49 (pc := 9) C (wg hG (by decide) (by decide)) dX3_readOne_9 ?_
    refine V_iconst (v := 2) (pc := 12) C dX3_readOne_12 (by decide) ?_
    refine V_icmp_ne (tgt := 32) (pc := 13) C dX3_readOne_13 (by decide) (fun h_13 => ?_) (fun h_13 => ?_)
    · rw [a3] at h_13
      have h12 : ¬ (q.2.2.1 = 1 ∨ q.2.2.1 = 2) := fun e => e.elim h_5 h_13
      refine V_aload_n (pc := 32) C 0 dX3_readOne_32 rfl rfl ?_
      refine get_X3_49 (pc := 33) C (wg hG (by decide) (by decide)) dX3_readOne_33 ?_
      refine V_bipush (v := 45) (pc := 36) C dX3_readOne_36 (by decide) ?_
      refine V_icmp_ne (tgt := 71) (pc := 38) C dX3_readOne_38 (by decide) (fun h_38 => ?_) (fun h_38 => ?_)
      · rw [a3] at h_38
        refine V_aload_n (pc := 71) C 0 dX3_readOne_71 rfl rfl ?_
        refine get_X3_49 (pc := 72) C (wg hG (by decide) (by decide)) dX3_readOne_72 ?_
        refine V_bipush (v := 40) (pc := 75) C dX3_readOne_75 (by decide) ?_
        refine V_icmp_ne (tgt := 109) (pc := 77) C dX3_readOne_77 (by decide) (fun h_77 => ?_) (fun h_77 => ?_)
        · rw [a3] at h_77
          refine V_aload_n (pc := 109) C 0 dX3_readOne_109 rfl rfl ?_
          refine call_X3_52 (pc := 110) C (r_refuse (d := d - 1) hG hR) (by omega) (wg hG (by decide) (by decide)) (Nat.le_of_ble_eq_true rfl) dX3_readOne_110 (fun M_110 h_110 => ?_)
          obtain ⟨f1, r1⟩ := h_110
          refine V_vret (pc := 113) C hr hlk dX3_readOne_113 ⟨rfl, ?_⟩
          exact ⟨f1, by rw [gOneF, if_neg h12, if_neg h_38, if_neg h_77, hn]; exact r1⟩
        · rw [a3] at h_77
          refine V_aload_n (pc := 80) C 0 dX3_readOne_80 rfl rfl ?_
          refine V_iload_n (pc := 81) C 2 dX3_readOne_81 rfl rfl ?_
          refine call_X3_72 (pc := 82) C (r_mayOpen (d := d - 1) hG (by omega) hR o) (by omega) (wg hG (by decide) (by decide)) (Nat.le_of_ble_eq_true rfl) dX3_readOne_82 (fun x_82 M_82 h_82 => ?_)
          obtain ⟨e_82, f1, r1⟩ := h_82
          subst e_82
          refine V_if_eq (tgt := 113) (pc := 85) C dX3_readOne_85 (by decide) (fun h_85 => ?_) (fun h_85 => ?_)
          · have h_85 := bJ_0.mp h_85
            rw [if_neg h_85] at r1
            have hk : ¬ ok = true := fun e => h_85 (hok.mp e)
            refine V_vret (pc := 113) C hr hlk dX3_readOne_113 ⟨rfl, ?_⟩
            exact ⟨f1, by rw [gOneF, if_neg h12, if_neg h_38, if_pos h_77, if_neg hk, hn]; exact r1⟩
          · have h_85 := bJ_1.mp h_85
            rw [if_pos h_85] at r1
            have hk : ok = true := hok.mpr h_85
            refine V_aload_n (pc := 88) C 0 dX3_readOne_88 rfl rfl ?_
            refine call_X3_28 (pc := 89) C (r_advance (d := d - 1) hG (by omega) r1) (by omega) (wg hG (by decide) (by decide)) (Nat.le_of_ble_eq_true rfl) dX3_readOne_89 (fun M_89 h_89 => ?_)
            obtain ⟨f2, r2⟩ := h_89
            refine V_aload_n (pc := 92) C 0 dX3_readOne_92 rfl rfl ?_
            refine V_aload_n (pc := 93) C 1 dX3_readOne_93 rfl rfl ?_
            refine V_iload_n (pc := 94) C 2 dX3_readOne_94 rfl rfl ?_
            refine V_iconst (v := 1) (pc := 95) C dX3_readOne_95 (by decide) ?_
            refine V_iadd (pc := 96) C dX3_readOne_96 ?_
            refine call_X3_59 (pc := 97) C (h2 hk _ _ _ r2) (by omega) (wg hG (by decide) (by decide)) (Nat.le_of_ble_eq_true rfl) dX3_readOne_97 (fun M_97 h_97 => ?_)
            obtain ⟨f3, r3⟩ := h_97
            refine V_aload_n (pc := 100) C 0 dX3_readOne_100 rfl rfl ?_
            refine V_bipush (v := 41) (pc := 101) C dX3_readOne_101 (by decide) ?_
            refine call_X3_55 (pc := 103) C (r_expect (d := d - 1) hG (by omega) r3 41) (by omega) (wg hG (by decide) (by decide)) (Nat.le_of_ble_eq_true rfl) dX3_readOne_103 (fun M_103 h_103 => ?_)
            obtain ⟨f4, r4⟩ := h_103
            refine V_goto (tgt := 113) (pc := 106) C dX3_readOne_106 (by decide) ?_
            refine V_vret (pc := 113) C hr hlk dX3_readOne_113 ⟨rfl, ?_⟩
            exact ⟨((f1.tr f2).tr f3).tr f4, by rw [gOneF, if_neg h12, if_neg h_38, if_pos h_77, if_pos hk]; exact r4⟩
      · rw [a3] at h_38
        refine V_aload_n (pc := 41) C 0 dX3_readOne_41 rfl rfl ?_
        refine V_iload_n (pc := 42) C 2 dX3_readOne_42 rfl rfl ?_
        refine call_X3_72 (pc := 43) C (r_mayOpen (d := d - 1) hG (by omega) hR o) (by omega) (wg hG (by decide) (by decide)) (Nat.le_of_ble_eq_true rfl) dX3_readOne_43 (fun x_43 M_43 h_43 => ?_)
        obtain ⟨e_43, f1, r1⟩ := h_43
        subst e_43
        refine V_if_eq (tgt := 113) (pc := 46) C dX3_readOne_46 (by decide) (fun h_46 => ?_) (fun h_46 => ?_)
        · have h_46 := bJ_0.mp h_46
          rw [if_neg h_46] at r1
          have hk : ¬ ok = true := fun e => h_46 (hok.mp e)
          refine V_vret (pc := 113) C hr hlk dX3_readOne_113 ⟨rfl, ?_⟩
          exact ⟨f1, by rw [gOneF, if_neg h12, if_pos h_38, if_neg hk, hn]; exact r1⟩
        · have h_46 := bJ_1.mp h_46
          rw [if_pos h_46] at r1
          have hk : ok = true := hok.mpr h_46
          refine V_aload_n (pc := 49) C 0 dX3_readOne_49 rfl rfl ?_
          refine call_X3_28 (pc := 50) C (r_advance (d := d - 1) hG (by omega) r1) (by omega) (wg hG (by decide) (by decide)) (Nat.le_of_ble_eq_true rfl) dX3_readOne_50 (fun M_50 h_50 => ?_)
          obtain ⟨f2, r2⟩ := h_50
          refine V_aload_n (pc := 53) C 0 dX3_readOne_53 rfl rfl ?_
          refine V_aload_n (pc := 54) C 1 dX3_readOne_54 rfl rfl ?_
          refine V_iload_n (pc := 55) C 2 dX3_readOne_55 rfl rfl ?_
          refine V_iconst (v := 1) (pc := 56) C dX3_readOne_56 (by decide) ?_
          refine V_iadd (pc := 57) C dX3_readOne_57 ?_
          refine call_X3_82 (pc := 58) C (h1 hk _ _ _ r2) (by omega) (wg hG (by decide) (by decide)) (Nat.le_of_ble_eq_true rfl) dX3_readOne_58 (fun M_58 h_58 => ?_)
          obtain ⟨f3, r3⟩ := h_58
          refine V_aload_n (pc := 61) C 0 dX3_readOne_61 rfl rfl ?_
          refine V_aload_n (pc := 62) C 1 dX3_readOne_62 rfl rfl ?_
          refine V_bipush (v := -8) (pc := 63) C dX3_readOne_63 (by decide) ?_
          refine call_X3_66 (pc := 65) C (r_put (d := d - 1) hG ht r3 _) (by omega) (wg hG (by decide) (by decide)) (Nat.le_of_ble_eq_true rfl) dX3_readOne_65 (fun M_65 h_65 => ?_)
          obtain ⟨f4, r4⟩ := h_65
          refine V_goto (tgt := 113) (pc := 68) C dX3_readOne_68 (by decide) ?_
          refine V_vret (pc := 113) C hr hlk dX3_readOne_113 ⟨rfl, ?_⟩
          exact ⟨((f1.tr f2).tr f3).tr f4, by rw [gOneF, if_neg h12, if_pos h_38, if_pos hk]; rw [cA_un] at r4; exact r4⟩
    · rw [a3] at h_13
      have h12 := (Or.inr h_13 : q.2.2.1 = 1 ∨ q.2.2.1 = 2)
      have hpc : M.1 11 0 5 = q.2.2.2.1 := hR.1.1.2.2.2 h12
      refine V_aload_n (pc := 16) C 0 dX3_readOne_16 rfl rfl ?_
      refine V_aload_n (pc := 17) C 1 dX3_readOne_17 rfl rfl ?_
      refine V_aload_n (pc := 18) C 0 dX3_readOne_18 rfl rfl ?_
      refine get_X3_85 (pc := 19) C (wg hG (by decide) (by decide)) dX3_readOne_19 ?_
      rw [hpc]
      refine call_X3_66 (pc := 22) C (r_put (d := d - 1) hG ht hR _) (by omega) (wg hG (by decide) (by decide)) (Nat.le_of_ble_eq_true rfl) dX3_readOne_22 (fun M_22 h_22 => ?_)
      obtain ⟨f1, r1⟩ := h_22
      refine V_aload_n (pc := 25) C 0 dX3_readOne_25 rfl rfl ?_
      refine call_X3_28 (pc := 26) C (r_advance (d := d - 1) hG (by omega) r1) (by omega) (wg hG (by decide) (by decide)) (Nat.le_of_ble_eq_true rfl) dX3_readOne_26 (fun M_26 h_26 => ?_)
      obtain ⟨f2, r2⟩ := h_26
      refine V_goto (tgt := 113) (pc := 29) C dX3_readOne_29 (by decide) ?_
      refine V_vret (pc := 113) C hr hlk dX3_readOne_113 ⟨rfl, ?_⟩
      exact ⟨f1.tr f2, by rw [gOneF, if_pos h12]; exact r2⟩
end S45
