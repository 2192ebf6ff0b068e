theorem eAt_le {c2 : Nat → Nat → Option Nat} {O nb : Nat} (hO : O < 128) (hnb : nb ≤ 7) (hc : ∀ b t a, c2 b t = some a → a ≤ 2000) (t : Nat) (ht : t ≤ 7) (K : Nat) (hK : K < 128) : ∀ a, eAt c2 O nb t K = some a → a ≤ 260000 := by
  intro a h
  rw [eAt_is hO hnb t ht K hK] at h
  by_cases e : pc7 K = pcb O t
  · rw [if_pos e] at h
    have := eTab_le hnb hc 128 (Nat.le_refl _) K a h
    omega
  · rw [if_neg e] at h
    cases h
/-- beyond the table there is nothing -/
def cut7 (E : Nat → Option Nat) (K : Nat) : Option Nat := if K < 128 then E K else none
theorem cut7_lt {E : Nat → Option Nat} {K : Nat} (h : K < 128) : cut7 E K = E K := if_pos h
theorem cut7_le {E : Nat → Option Nat} {B : Nat} (h : ∀ K, K < 128 → ∀ a, E K = some a → a ≤ B) : ∀ K a, cut7 E K = some a → a ≤ B := by
  intro K a e
  unfold cut7 at e
  by_cases hK : K < 128
  · rw [if_pos hK] at e; exact h K hK a e
  · rw [if_neg hK] at e; cases e
theorem encE_cut {g : Nat} {E : Nat → Option Nat} {M : wS} : encE g (cut7 E) M ↔ encE g E M := ⟨fun h K hK => by have := h K hK; rw [cut7_lt hK] at this; exact this, fun h K hK => by rw [cut7_lt hK]; exact h K hK⟩
theorem eCellF_le7 {c E : Nat → Option Nat} {K : Nat} (hE : ∀ K a, E K = some a → a ≤ 260000) (hc : ∀ b a, c b = some a → a ≤ 2000) : ∀ n a, eCellF c E K 0 n none = some a → a ≤ 300000 := by
  intro n
  induction n with
  | zero => intro a h; cases h
  | succ n ih =>
    rw [eCellF_snoc]
    split
    · exact mAdd_le (fun a ha b hb => by have := hE _ a ha; have := hc _ b hb; omega) ih
    · exact ih
section S68
variable {l : Launch} {D : va_G} {cy : Nat → ClassId} {ad : Nat → Nat → Nat} {G d : Nat}
theorem l0_X10_eachOne {p : Program} {e : Env} {s : State} {m : MethodId} {args : Array Value} {below : List Frame} {meth : Method} {c : Code} (C : CX p s m args c cX10_eachOne 6 "CostsAgeModel" D cy ad G (wA ad G) (Rm d) d 0 0) (hr : meth.sig.returnType = (some .int)) (hlk : meth.locks = false) (hG : 56 ≤ G) {Ms : wS} (Qf : Int32 → wS → Prop) : ∀ (n k : Nat) (M : wS), k + n = 128 → qF Ms M → (∀ K, K < k → eQ (if K = 0 then some 0 else none) (M.1 46 0 K)) → (∀ M', qF Ms M' → encE 46 (fun K => if K = 0 then some 0 else none) M' → V p l e (Rm d) s m args below meth c 6 D cy ad G (wA ad G) 0 0 (MQ below (wQ D cy ad G (rI Qf)) args s 0 0 (wA ad G)) 30 [(0, .ref (ad 30 0))] [] M') → V p l e (Rm d) s m args below meth c 6 D cy ad G (wA ad G) 0 0 (MQ below (wQ D cy ad G (rI Qf)) args s 0 0 (wA ad G)) 2 [(0, .ref (ad 30 0)), (1, .int (nI k))] [] M := by
  intro n
  induction n with
  | zero =>
    intro k M hk hF hR hQ
    obtain rfl : k = 128 := by omega
    refine V_iload_n (pc := 2) C 1 dX10_eachOne_2 rfl rfl ?_
    refine V_sipush (v := 128) (pc := 3) C dX10_eachOne_3 (by decide) ?_
    refine V_icmp_ge (tgt := 30) (pc := 6) C dX10_eachOne_6 (by decide) (fun h_6 => ?_) (fun h_6 => ?_)
    · refine V_loc (lv' := [(0, _)]) [0] rfl ?_
      exact hQ M hF hR
    · exact absurd (nI_le (a := 128) (b := 128) (Nat.le_refl _) (by decide)) h_6
  | succ n ih =>
    intro k M hk hF hR hQ
    have st : ∀ x, eQ (if k = 0 then some 0 else none) x → V p l e (Rm d) s m args below meth c 6 D cy ad G (wA ad G) 0 0 (MQ below (wQ D cy ad G (rI Qf)) args s 0 0 (wA ad G)) 2 [(0, .ref (ad 30 0)), (1, .int (nI (k + 1)))] [] (mset M 46 0 k x) := fun x hx => ih (k + 1) _ (by omega) (hF.tr (qF.arr (g := 46) _ (by decide))) (fun K hK => by
      by_cases e : K = k
      · rw [show (mset M 46 0 k x).1 46 0 K = x by rw [mset_at, if_pos ⟨rfl, rfl, e⟩], e]; exact hx
      · rw [show (mset M 46 0 k x).1 46 0 K = M.1 46 0 K by rw [mset_at, if_neg (fun z => e z.2.2)]]; exact hR K (by omega)) hQ
    refine V_iload_n (pc := 2) C 1 dX10_eachOne_2 rfl rfl ?_
    refine V_sipush (v := 128) (pc := 3) C dX10_eachOne_3 (by decide) ?_
    refine V_icmp_ge (tgt := 30) (pc := 6) C dX10_eachOne_6 (by decide) (fun h_6 => ?_) (fun h_6 => ?_)
    · exact absurd h_6 (nI_ge (b := 128) (by omega) (by decide))
    · refine V_aload_n (pc := 9) C 0 dX10_eachOne_9 rfl rfl ?_
      refine get_X10_62 (pc := 10) C (wg hG (by decide) (by decide)) dX10_eachOne_10 ?_
      refine V_iload_n (pc := 13) C 1 dX10_eachOne_13 rfl rfl ?_
      refine V_iload_n (pc := 14) C 1 dX10_eachOne_14 rfl rfl ?_
      refine V_if_ne (tgt := 22) (pc := 15) C dX10_eachOne_15 (by decide) (fun h_15 => ?_) (fun h_15 => ?_)
      · refine V_iconst (v := -1) (pc := 22) C dX10_eachOne_22 (by decide) ?_
        refine V_iast (pc := 23) C (k) rfl (by omega) (Nat.le_of_ble_eq_true rfl) (wg hG (by decide) (by decide)) (fun _ => wF_46) dX10_eachOne_23 ?_
        refine Vs_iinc (v := nI (k + 1)) (lv' := [(0, _), (1, _)]) (pc := 24) C 1 dX10_eachOne_24 rfl (by decide) rfl (nI_i1 (k)) rfl ?_
        refine V_goto (tgt := 2) (pc := 27) C dX10_eachOne_27 (by decide) ?_
        exact st _ (by rw [if_neg (fun e => h_15 (by rw [e]; rfl))]; rfl)
      · refine V_iconst (v := 0) (pc := 18) C dX10_eachOne_18 (by decide) ?_
        refine V_goto (tgt := 23) (pc := 19) C dX10_eachOne_19 (by decide) ?_
        refine V_iast (pc := 23) C (k) rfl (by omega) (Nat.le_of_ble_eq_true rfl) (wg hG (by decide) (by decide)) (fun _ => wF_46) dX10_eachOne_23 ?_
        refine Vs_iinc (v := nI (k + 1)) (lv' := [(0, _), (1, _)]) (pc := 24) C 1 dX10_eachOne_24 rfl (by decide) rfl (nI_i1 (k)) rfl ?_
        refine V_goto (tgt := 2) (pc := 27) C dX10_eachOne_27 (by decide) ?_
        exact st _ (by rw [if_pos ((nI_eq (b := 0) (by omega) (by decide)).mp h_15)]; rfl)
theorem l1_X10_eachOne {p : Program} {e : Env} {s : State} {m : MethodId} {args : Array Value} {below : List Frame} {meth : Method} {c : Code} (C : CX p s m args c cX10_eachOne 6 "CostsAgeModel" D cy ad G (wA ad G) (Rm d) d 0 0) (hr : meth.sig.returnType = (some .int)) (hlk : meth.locks = false) (hG : 56 ≤ G) {Ms : wS} {E : Nat → Option Nat} (ti : Int32) (Qf : Int32 → wS → Prop) : ∀ (n k : Nat) (M : wS), k + n = 128 → qF Ms M → encE 46 E M → (∀ K, K < k → M.1 47 0 K = -1) → (∀ M', qF Ms M' → encE 46 E M' → encE 47 (fun _ => none) M' → V p l e (Rm d) s m args below meth c 6 D cy ad G (wA ad G) 0 0 (MQ below (wQ D cy ad G (rI Qf)) args s 0 0 (wA ad G)) 73 [(0, .ref (ad 30 0)), (1, .int ti)] [] M') → V p l e (Rm d) s m args below meth c 6 D cy ad G (wA ad G) 0 0 (MQ below (wQ D cy ad G (rI Qf)) args s 0 0 (wA ad G)) 53 [(0, .ref (ad 30 0)), (1, .int ti), (2, .int (nI k))] [] M := by
  intro n
  induction n with
  | zero =>
    intro k M hk hF hE hR hQ
    obtain rfl : k = 128 := by omega
    refine V_iload_n (pc := 53) C 2 dX10_eachOne_53 rfl rfl ?_
    refine V_sipush (v := 128) (pc := 54) C dX10_eachOne_54 (by decide) ?_
    refine V_icmp_ge (tgt := 73) (pc := 57) C dX10_eachOne_57 (by decide) (fun h_57 => ?_) (fun h_57 => ?_)
    · refine V_loc (lv' := [(0, _), (1, _)]) [0, 1] rfl ?_
      exact hQ M hF hE (fun K hK => hR K hK)
    · exact absurd (nI_le (a := 128) (b := 128) (Nat.le_refl _) (by decide)) h_57
  | succ n ih =>
    intro k M hk hF hE hR hQ
    refine V_iload_n (pc := 53) C 2 dX10_eachOne_53 rfl rfl ?_
    refine V_sipush (v := 128) (pc := 54) C dX10_eachOne_54 (by decide) ?_
    refine V_icmp_ge (tgt := 73) (pc := 57) C dX10_eachOne_57 (by decide) (fun h_57 => ?_) (fun h_57 => ?_)
    · exact absurd h_57 (nI_ge (b := 128) (by omega) (by decide))
    · refine V_aload_n (pc := 60) C 0 dX10_eachOne_60 rfl rfl ?_
      refine get_X10_65 (pc := 61) C (wg hG (by decide) (by decide)) dX10_eachOne_61 ?_
      refine V_iload_n (pc := 64) C 2 dX10_eachOne_64 rfl rfl ?_
      refine V_iconst (v := -1) (pc := 65) C dX10_eachOne_65 (by decide) ?_
      refine V_iast (pc := 66) C (k) rfl (by omega) (Nat.le_of_ble_eq_true rfl) (wg hG (by decide) (by decide)) (fun _ => wF_47) dX10_eachOne_66 ?_
      refine Vs_iinc (v := nI (k + 1)) (lv' := [(0, _), (1, _), (2, _)]) (pc := 67) C 2 dX10_eachOne_67 rfl (by decide) rfl (nI_i1 (k)) rfl ?_
      refine V_goto (tgt := 53) (pc := 70) C dX10_eachOne_70 (by decide) ?_
      refine ih (k + 1) _ (by omega) (hF.tr (qF.arr (g := 47) _ (by decide))) (fun K hK => ?_) (fun K hK => ?_) hQ
      · rw [mset_at, if_neg (by omega)]; exact hE K hK
      · rw [mset_at]
        by_cases e : K = k
        · rw [if_pos ⟨rfl, rfl, e⟩]
        · rw [if_neg (fun z => e z.2.2)]; exact hR K (by omega)
theorem l2_X10_eachOne {p : Program} {e : Env} {s : State} {m : MethodId} {args : Array Value} {below : List Frame} {meth : Method} {c : Code} (C : CX p s m args c cX10_eachOne 6 "CostsAgeModel" D cy ad G (wA ad G) (Rm d) d 0 0) (hr : meth.sig.returnType = (some .int)) (hlk : meth.locks = false) (hG : 56 ≤ G) (hd : 44 ≤ d) {M0 Ms : wS} {nb nt r e1 e2 e3 t : Nat} (hC : rC M0 Ms nb nt r e1 e2 e3) (ht : t < nt) {E co : Nat → Option Nat} (hE : ∀ K a, E K = some a → a ≤ 260000) (hcb : ∀ b a, co b = some a → a ≤ 2000) (hc : ∀ b, b < nb → (kCost (kAlone M0 t) r e1 e2 b (M0.1 28 0 b) 0 = -5 ∧ co b = none) ∨ (∃ w, kCost (kAlone M0 t) r e1 e2 b (M0.1 28 0 b) 0 = nI w ∧ co b = some w ∧ w ≤ 2000)) (Qf : Int32 → wS → Prop) : ∀ (n b : Nat) (M : wS), b + n = nb → qF Ms M → encE 46 E M → encE 47 (fun K => eCellF co E K 0 b none) M → (∀ M', qF Ms M' → encE 46 E M' → encE 47 (fun K => eCellF co E K 0 nb none) M' → V p l e (Rm d) s m args below meth c 6 D cy ad G (wA ad G) 0 0 (MQ below (wQ D cy ad G (rI Qf)) args s 0 0 (wA ad G)) 194 [(0, .ref (ad 30 0)), (1, .int (nI t))] [] M') → V p l e (Rm d) s m args below meth c 6 D cy ad G (wA ad G) 0 0 (MQ below (wQ D cy ad G (rI Qf)) args s 0 0 (wA ad G)) 75 [(0, .ref (ad 30 0)), (1, .int (nI t)), (2, .int (nI b))] [] M := by
  have hb7 := hC.1.1.2
  have hsh := shw_alone (M0 := M0) hC.1.2.1.2 ht
  intro n
  induction n with
  | zero =>
    intro b M hb hF hEE hN hQ
    have hm := (hC.q hF).2.1.1.1
    obtain rfl : b = nb := by omega
    refine V_iload_n (pc := 75) C 2 dX10_eachOne_75 rfl rfl ?_
    refine V_aload_n (pc := 76) C 0 dX10_eachOne_76 rfl rfl ?_
    refine get_X10_103 (pc := 77) C (wg hG (by decide) (by decide)) dX10_eachOne_77 ?_
    refine V_icmp_ge (tgt := 194) (pc := 80) C dX10_eachOne_80 (by decide) (fun h_80 => ?_) (fun h_80 => ?_)
    · refine V_loc (lv' := [(0, _), (1, _)]) [0, 1] rfl ?_
      exact hQ M hF hEE hN
    · rw [hm] at h_80
      exact absurd (nI_le (Nat.le_refl _) (by omega)) h_80
  | succ n ih =>
    intro b M hb hF hEE hN hQ
    have hm := (hC.q hF).2.1.1.1
    have nxt : ∀ (M' : wS), qF Ms M' → encE 46 E M' → encE 47 (nxF (fun K => eCellF co E K 0 b none) E (co b) b) M' → V p l e (Rm d) s m args below meth c 6 D cy ad G (wA ad G) 0 0 (MQ below (wQ D cy ad G (rI Qf)) args s 0 0 (wA ad G)) 188 [(0, .ref (ad 30 0)), (1, .int (nI t)), (2, .int (nI b))] [] M' := by
      intro M' g1 g2 g3
      have h3 := ih (b + 1) M' (by omega) g1 g2 (fun K hK => by have := g3 K hK; show eQ (eCellF co E K 0 (b + 1) none) _; rw [eCellF_snoc]; exact this) hQ
      refine Vs_iinc (v := nI (b + 1)) (lv' := [(0, _), (1, _), (2, _)]) (pc := 188) C 2 dX10_eachOne_188 rfl (by decide) rfl (nI_i1 (b)) rfl ?_
      refine V_goto (tgt := 75) (pc := 191) C dX10_eachOne_191 (by decide) ?_
      exact h3
    refine V_iload_n (pc := 75) C 2 dX10_eachOne_75 rfl rfl ?_
    refine V_aload_n (pc := 76) C 0 dX10_eachOne_76 rfl rfl ?_
    refine get_X10_103 (pc := 77) C (wg hG (by decide) (by decide)) dX10_eachOne_77 ?_
    refine V_icmp_ge (tgt := 194) (pc := 80) C dX10_eachOne_80 (by decide) (fun h_80 => ?_) (fun h_80 => ?_)
    · rw [hm] at h_80
      exact absurd h_80 (nI_ge (by omega) (by omega))
    · refine V_aload_n (pc := 83) C 0 dX10_eachOne_83 rfl rfl ?_
      refine V_iload_n (pc := 84) C 2 dX10_eachOne_84 rfl rfl ?_
      refine V_iconst (v := 1) (pc := 85) C dX10_eachOne_85 (by decide) ?_
      refine V_iload_n (pc := 86) C 1 dX10_eachOne_86 rfl rfl ?_
      refine V_ishl (pc := 87) C dX10_eachOne_87 ?_
      refine V_iconst (v := 0) (pc := 88) C dX10_eachOne_88 (by decide) ?_
      refine call_X10_297 (pc := 89) C (r_costOf (d := d - 1) hG (by omega) (hC.q hF) hsh (k := b) (by omega) (by decide)) (by omega) (wg hG (by decide) (by decide)) (Nat.le_of_ble_eq_true rfl) dX10_eachOne_89 (fun x_89 M_89 h_89 => ?_)
      obtain ⟨f1, f2⟩ := h_89
      have hF2 := hF.tr (f1.q (by decide))
      have hcv := hc b (by omega)
      rw [← f2] at hcv
      refine Vs_istore_n (lv' := [(0, _), (1, _), (2, _), (3, _)]) (pc := 92) C dX10_eachOne_92 rfl (by decide) rfl rfl ?_
      refine V_iconst (v := 0) (pc := 93) C dX10_eachOne_93 (by decide) ?_
      refine Vs_istore (lv' := [(0, _), (1, _), (2, _), (3, _), (4, _)]) (pc := 94) C dX10_eachOne_94 (by decide) rfl rfl ?_
      refine li_X10_eachOne C hr hlk hG hE (nx0 := fun K => eCellF co E K 0 b none) (fun K => eCellF_le7 hE hcb b) hcv (by omega) (nI t) _ 128 0 M_89 (by omega) hF2 (fun K hK => by rw [f1.1 46 0 (by decide)]; exact hEE K hK) (fun K hK => ?_) nxt
      rw [show nxJ (fun K => eCellF co E K 0 b none) E (co b) b 0 K = eCellF co E K 0 b none by rw [nxJ, if_neg (fun z => absurd z.2 (Nat.not_lt_zero _))], f1.1 47 0 (by decide)]
      exact hN K hK
theorem l3_X10_eachOne {p : Program} {e : Env} {s : State} {m : MethodId} {args : Array Value} {below : List Frame} {meth : Method} {c : Code} (C : CX p s m args c cX10_eachOne 6 "CostsAgeModel" D cy ad G (wA ad G) (Rm d) d 0 0) (hr : meth.sig.returnType = (some .int)) (hlk : meth.locks = false) (hG : 56 ≤ G) {Ms : wS} {E : Nat → Option Nat} (ti : Int32) (Qf : Int32 → wS → Prop) : ∀ (n k : Nat) (M : wS), k + n = 128 → qF Ms M → encE 47 E M → (∀ K, K < k → eQ (E K) (M.1 46 0 K)) → (∀ M', qF Ms M' → encE 46 E M' → V p l e (Rm d) s m args below meth c 6 D cy ad G (wA ad G) 0 0 (MQ below (wQ D cy ad G (rI Qf)) args s 0 0 (wA ad G)) 221 [(0, .ref (ad 30 0)), (1, .int ti)] [] M') → V p l e (Rm d) s m args below meth c 6 D cy ad G (wA ad G) 0 0 (MQ below (wQ D cy ad G (rI Qf)) args s 0 0 (wA ad G)) 196 [(0, .ref (ad 30 0)), (1, .int ti), (2, .int (nI k))] [] M := by
  intro n
  induction n with
  | zero =>
    intro k M hk hF hE hR hQ
    obtain rfl : k = 128 := by omega
    refine V_iload_n (pc := 196) C 2 dX10_eachOne_196 rfl rfl ?_
    refine V_sipush (v := 128) (pc := 197) C dX10_eachOne_197 (by decide) ?_
    refine V_icmp_ge (tgt := 221) (pc := 200) C dX10_eachOne_200 (by decide) (fun h_200 => ?_) (fun h_200 => ?_)
    · refine V_loc (lv' := [(0, _), (1, _)]) [0, 1] rfl ?_
      exact hQ M hF (fun K hK => hR K hK)
    · exact absurd (nI_le (a := 128) (b := 128) (Nat.le_refl _) (by decide)) h_200
  | succ n ih =>
    intro k M hk hF hE hR hQ
    refine V_iload_n (pc := 196) C 2 dX10_eachOne_196 rfl rfl ?_
    refine V_sipush (v := 128) (pc := 197) C dX10_eachOne_197 (by decide) ?_
    refine V_icmp_ge (tgt := 221) (pc := 200) C dX10_eachOne_200 (by decide) (fun h_200 => ?_) (fun h_200 => ?_)
    · exact absurd h_200 (nI_ge (b := 128) (by omega) (by decide))
    · refine V_aload_n (pc := 203) C 0 dX10_eachOne_203 rfl rfl ?_
      refine get_X10_62 (pc := 204) C (wg hG (by decide) (by decide)) dX10_eachOne_204 ?_
      refine V_iload_n (pc := 207) C 2 dX10_eachOne_207 rfl rfl ?_
      refine V_aload_n (pc := 208) C 0 dX10_eachOne_208 rfl rfl ?_
      refine get_X10_65 (pc := 209) C (wg hG (by decide) (by decide)) dX10_eachOne_209 ?_
      refine V_iload_n (pc := 212) C 2 dX10_eachOne_212 rfl rfl ?_
      refine V_iald (pc := 213) C (k) rfl (by omega) (Nat.le_of_ble_eq_true rfl) (wg hG (by decide) (by decide)) wF_47 dX10_eachOne_213 ?_
      refine V_iast (pc := 214) C (k) rfl (by omega) (Nat.le_of_ble_eq_true rfl) (wg hG (by decide) (by decide)) (fun _ => wF_46) dX10_eachOne_214 ?_
      refine Vs_iinc (v := nI (k + 1)) (lv' := [(0, _), (1, _), (2, _)]) (pc := 215) C 2 dX10_eachOne_215 rfl (by decide) rfl (nI_i1 (k)) rfl ?_
      refine V_goto (tgt := 196) (pc := 218) C dX10_eachOne_218 (by decide) ?_
      refine ih (k + 1) _ (by omega) (hF.tr (qF.arr (g := 46) _ (by decide))) (fun K hK => ?_) (fun K hK => ?_) hQ
      · rw [mset_at, if_neg (by omega)]; exact hE K hK
      · rw [mset_at]
        by_cases e : K = k
        · rw [if_pos ⟨rfl, rfl, e⟩, e]; exact hE k (by omega)
        · rw [if_neg (fun z => e z.2.2)]; exact hR K (by omega)
theorem l5_X10_eachOne {p : Program} {e : Env} {s : State} {m : MethodId} {args : Array Value} {below : List Frame} {meth : Method} {c : Code} (C : CX p s m args c cX10_eachOne 6 "CostsAgeModel" D cy ad G (wA ad G) (Rm d) d 0 0) (hr : meth.sig.returnType = (some .int)) (hlk : meth.locks = false) (hG : 56 ≤ G) {M : wS} {E : Nat → Option Nat} (hEE : encE 46 E M) (hEb : ∀ K, K < 128 → ∀ a, E K = some a → a ≤ 260000) (Qf : Int32 → wS → Prop) : ∀ (n k : Nat) (cur : Option Nat), k + n = 128 → (∀ a, cur = some a → a ≤ 260000) → Qf (encM (mFold E n k cur)) M → V p l e (Rm d) s m args below meth c 6 D cy ad G (wA ad G) 0 0 (MQ below (wQ D cy ad G (rI Qf)) args s 0 0 (wA ad G)) 231 [(0, .ref (ad 30 0)), (1, .int (encM cur)), (2, .int (nI k))] [] M := by
  intro n
  induction n with
  | zero =>
    intro k cur hk hc hQ
    obtain rfl : k = 128 := by omega
    refine V_iload_n (pc := 231) C 2 dX10_eachOne_231 rfl rfl ?_
    refine V_sipush (v := 128) (pc := 232) C dX10_eachOne_232 (by decide) ?_
    refine V_icmp_ge (tgt := 276) (pc := 235) C dX10_eachOne_235 (by decide) (fun h_235 => ?_) (fun h_235 => ?_)
    · refine V_iload_n (pc := 276) C 1 dX10_eachOne_276 rfl rfl ?_
      refine V_iret (pc := 277) C hr hlk dX10_eachOne_277 ⟨_, rfl, ?_⟩
      exact hQ
    · exact absurd (nI_le (a := 128) (b := 128) (Nat.le_refl _) (by decide)) h_235
  | succ n ih =>
    intro k cur hk hc hQ
    unfold mFold at hQ
    have hk128 : k < 128 := by omega
    have hEk := hEE k hk128
    have hEkb := hEb k hk128
    have hcm : encM cur = -1 ↔ cur = none := eQ_m1 (by cases cur <;> rfl) (fun p hp => by have := hc p hp; omega)
    refine V_iload_n (pc := 231) C 2 dX10_eachOne_231 rfl rfl ?_
    refine V_sipush (v := 128) (pc := 232) C dX10_eachOne_232 (by decide) ?_
    refine V_icmp_ge (tgt := 276) (pc := 235) C dX10_eachOne_235 (by decide) (fun h_235 => ?_) (fun h_235 => ?_)
    · exact absurd h_235 (nI_ge (b := 128) (by omega) (by decide))
    · refine V_aload_n (pc := 238) C 0 dX10_eachOne_238 rfl rfl ?_
      refine get_X10_62 (pc := 239) C (wg hG (by decide) (by decide)) dX10_eachOne_239 ?_
      refine V_iload_n (pc := 242) C 2 dX10_eachOne_242 rfl rfl ?_
      refine V_iald (pc := 243) C (k) rfl hk128 (Nat.le_of_ble_eq_true rfl) (wg hG (by decide) (by decide)) wF_46 dX10_eachOne_243 ?_
      refine V_iconst (v := -1) (pc := 244) C dX10_eachOne_244 (by decide) ?_
      refine V_icmp_eq (tgt := 270) (pc := 245) C dX10_eachOne_245 (by decide) (fun h_245 => ?_) (fun h_245 => ?_)
      · have he := (eQ_m1 hEk (fun p hp => by have := hEkb p hp; omega)).mp h_245
        rw [he, minO_n] at hQ
        refine Vs_iinc (v := nI (k + 1)) (lv' := [(0, _), (1, _), (2, _)]) (pc := 270) C 2 dX10_eachOne_270 rfl (by decide) rfl (nI_i1 (k)) rfl ?_
        refine V_goto (tgt := 231) (pc := 273) C dX10_eachOne_273 (by decide) ?_
        exact ih (k + 1) cur (by omega) hc hQ
      · have hes : ¬ E k = none := fun e => h_245 ((eQ_m1 hEk (fun p hp => by have := hEkb p hp; omega)).mpr e)
        obtain ⟨a, ha⟩ := Option.ne_none_iff_exists'.mp hes
        rw [ha] at hEk hQ
        have hEk : M.1 46 0 k = nI a := hEk
        have hab := hEkb a ha
        refine V_iload_n (pc := 248) C 1 dX10_eachOne_248 rfl rfl ?_
        refine V_iconst (v := -1) (pc := 249) C dX10_eachOne_249 (by decide) ?_
        refine V_icmp_eq (tgt := 263) (pc := 250) C dX10_eachOne_250 (by decide) (fun h_250 => ?_) (fun h_250 => ?_)
        · have hcn := hcm.mp h_250
          rw [hcn, show minO none (some a) = some a from rfl] at hQ
          refine V_aload_n (pc := 263) C 0 dX10_eachOne_263 rfl rfl ?_
          refine get_X10_62 (pc := 264) C (wg hG (by decide) (by decide)) dX10_eachOne_264 ?_
          refine V_iload_n (pc := 267) C 2 dX10_eachOne_267 rfl rfl ?_
          refine V_iald (pc := 268) C (k) rfl hk128 (Nat.le_of_ble_eq_true rfl) (wg hG (by decide) (by decide)) wF_46 dX10_eachOne_268 ?_
          rw [hEk]
          refine Vs_istore_n (lv' := [(0, _), (1, _), (2, _)]) (pc := 269) C dX10_eachOne_269 rfl (by decide) rfl rfl ?_
          refine Vs_iinc (v := nI (k + 1)) (lv' := [(0, _), (1, _), (2, _)]) (pc := 270) C 2 dX10_eachOne_270 rfl (by decide) rfl (nI_i1 (k)) rfl ?_
          refine V_goto (tgt := 231) (pc := 273) C dX10_eachOne_273 (by decide) ?_
          exact ih (k + 1) (some a) (by omega) (fun a' h => by cases h; exact hab) hQ
        · have hcs : ¬ cur = none := fun e => h_250 (hcm.mpr e)
          obtain ⟨x0, hx0⟩ := Option.ne_none_iff_exists'.mp hcs
          have hxb := hc x0 hx0
          rw [hx0, show minO (some x0) (some a) = if a < x0 then some a else some x0 from rfl] at hQ
          refine V_aload_n (pc := 253) C 0 dX10_eachOne_253 rfl rfl ?_
          refine get_X10_62 (pc := 254) C (wg hG (by decide) (by decide)) dX10_eachOne_254 ?_
          refine V_iload_n (pc := 257) C 2 dX10_eachOne_257 rfl rfl ?_
          refine V_iald (pc := 258) C (k) rfl hk128 (Nat.le_of_ble_eq_true rfl) (wg hG (by decide) (by decide)) wF_46 dX10_eachOne_258 ?_
          refine V_iload_n (pc := 259) C 1 dX10_eachOne_259 rfl rfl ?_
          refine V_icmp_ge (tgt := 270) (pc := 260) C dX10_eachOne_260 (by decide) (fun h_260 => ?_) (fun h_260 => ?_)
          · rw [hEk, hx0, show encM (some x0) = nI x0 from rfl, nI_leI (by omega) (by omega)] at h_260
            rw [if_neg (by omega), ← hx0] at hQ
            refine Vs_iinc (v := nI (k + 1)) (lv' := [(0, _), (1, _), (2, _)]) (pc := 270) C 2 dX10_eachOne_270 rfl (by decide) rfl (nI_i1 (k)) rfl ?_
            refine V_goto (tgt := 231) (pc := 273) C dX10_eachOne_273 (by decide) ?_
            exact ih (k + 1) cur (by omega) hc hQ
          · rw [hEk, hx0, show encM (some x0) = nI x0 from rfl, nI_leI (by omega) (by omega)] at h_260
            rw [if_pos (by omega)] at hQ
            refine V_aload_n (pc := 263) C 0 dX10_eachOne_263 rfl rfl ?_
            refine get_X10_62 (pc := 264) C (wg hG (by decide) (by decide)) dX10_eachOne_264 ?_
            refine V_iload_n (pc := 267) C 2 dX10_eachOne_267 rfl rfl ?_
            refine V_iald (pc := 268) C (k) rfl hk128 (Nat.le_of_ble_eq_true rfl) (wg hG (by decide) (by decide)) wF_46 dX10_eachOne_268 ?_
            rw [hEk]
            refine Vs_istore_n (lv' := [(0, _), (1, _), (2, _)]) (pc := 269) C dX10_eachOne_269 rfl (by decide) rfl rfl ?_
            refine Vs_iinc (v := nI (k + 1)) (lv' := [(0, _), (1, _), (2, _)]) (pc := 270) C 2 dX10_eachOne_270 rfl (by decide) rfl (nI_i1 (k)) rfl ?_
            refine V_goto (tgt := 231) (pc := 273) C dX10_eachOne_273 (by decide) ?_
            exact ih (k + 1) (some a) (by omega) (fun a' h => by cases h; exact hab) hQ
end S68
