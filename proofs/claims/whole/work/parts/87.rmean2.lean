theorem lM_T {n : Nat} (h : n < 1000) : (nI n).toInt64.toInt = n := by
  rw [Int32.toInt_toInt64, nI_t h]
theorem lM_z {n : Nat} (h : n < 1000) : (nI n).toInt64 = 0 ↔ n = 0 := by
  rw [← Int64.toInt_inj, lM_T h, show (0 : Int64).toInt = 0 from rfl]
  omega
theorem lM_add {a b : Nat} (h : a + b < 1000) : (nI a).toInt64 + (nI b).toInt64 = (nI (a + b)).toInt64 := by
  apply Int64.toInt_inj.mp
  rw [Int64.toInt_add, lM_T (by omega), lM_T (by omega), lM_T (by omega), Int.bmod]
  omega
theorem lM_div {a b : Nat} (ha : a < 1000) (hb : b < 1000) : (nI a).toInt64 / (nI b).toInt64 = (nI (a / b)).toInt64 := by
  apply Int64.toInt_inj.mp
  have h1 : a / b ≤ a := Nat.div_le_self a b
  rw [Int64.toInt_div, lM_T (by omega), lM_T hb, lM_T (by omega), ← Int.ofNat_tdiv, Int.bmod]
  generalize a / b = q at *
  omega
theorem lM_rem {a b : Nat} (ha : a < 1000) (hb : b < 1000) : (nI a).toInt64 - (nI a).toInt64 / (nI b).toInt64 * (nI b).toInt64 = (nI (a % b)).toInt64 := by
  rw [lM_div ha hb]
  apply Int64.toInt_inj.mp
  have h1 : a / b ≤ a := Nat.div_le_self a b
  have h2 : a % b ≤ a := Nat.mod_le a b
  have h3 : a / b * b + a % b = a := Nat.div_add_mod' a b
  rw [Int64.toInt_sub, Int64.toInt_mul, lM_T ha, lM_T (by omega), lM_T hb, lM_T (by omega), ← Int.natCast_mul]
  generalize a / b * b = u at *
  generalize a % b = v at *
  rw [Int.bmod, Int.bmod]
  omega
theorem mean_val {M0 : wS} {nb S : Nat} {w : Int32} (hS : mSum (M0.1 27 0) 0 nb 0 = nI S) (h : S < 694) (h1 : 1 ≤ nb) (h7 : nb ≤ 7) (hw : 0 ≤ w ∧ w ≤ 1) : kMean M0 nb w = if w = 0 then (nI (S / Nat.gcd S nb)).toInt64 else (nI (nb / Nat.gcd S nb)).toInt64 := by
  have hg := Nat.gcd_pos_of_pos_right S h1
  have hl := Nat.gcd_le_right S h1
  rw [kMean, if_pos ⟨hw, by omega⟩, hS, mDiv_gcd nb (by omega) h1 S h]
  by_cases e : w = 0
  · rw [if_pos e, if_pos e, pk_div (by omega) hg (by omega)]
  · rw [if_neg e, if_neg e, pk_div (by omega) hg (by omega)]
section S87
variable {l : Launch} {D : va_G} {cy : Nat → ClassId} {ad : Nat → Nat → Nat} {G d : Nat}
theorem lq_X10_mean {p : Program} {e : Env} {s : State} {m : MethodId} {args : Array Value} {below : List Frame} {meth : Method} {c : Code} (C : CX p s m args c cX10_mean 10 "CostsAgeModel" D cy ad G (wA ad G) (Rm d) d 0 0) (hr : meth.sig.returnType = (some .long)) (hlk : meth.locks = false) (hG : 56 ≤ G) (M : wS) {nb : Nat} (hnb : M.1 30 0 12 = nI nb) (hn7 : nb ≤ 7) (w : Int32) {S g : Nat} (hS : S < 1000) (hg : g < 1000) (hg0 : ¬ g = 0) (Qf : Int64 → wS → Prop) (hq : Qf (if w = 0 then (nI (S / g)).toInt64 else (nI (nb / g)).toInt64) M) : ∀ (n a b : Nat), b < n → a < 1000 → b < 1000 → Nat.gcd a b = g → V p l e (Rm d) s m args below meth c 10 D cy ad G (wA ad G) 0 0 (MQ below (wQ D cy ad G (rL Qf)) args s 0 0 (wA ad G)) 62 [(0, .ref (ad 30 0)), (1, .int w), (2, .long (nI S).toInt64), (4, .long (nI a).toInt64), (6, .long (nI b).toInt64)] [] M := by
  intro n
  induction n with
  | zero => exact fun a b h => absurd h (Nat.not_lt_zero b)
  | succ n ih =>
    intro a b hb ha hb2 e
    refine V_lload (pc := 62) C 4 dX10_mean_62 rfl ?_
    refine V_lconst (v := 0) (pc := 64) C dX10_mean_64 (by decide) ?_
    refine V_lcmp (pc := 65) C dX10_mean_65 ?_
    refine V_if_eq (tgt := 87) (pc := 66) C dX10_mean_66 (by decide) (fun h_66 => ?_) (fun h_66 => ?_)
    · rw [lg_cmp_eq, lM_z hb2] at h_66
      subst h_66
      rw [Nat.gcd_zero_right] at e
      subst e
      have hz : ¬ (nI a).toInt64 = 0 := fun y => hg0 ((lM_z ha).mp y)
      refine V_iload_n (pc := 87) C 1 dX10_mean_87 rfl rfl ?_
      refine V_if_ne (tgt := 98) (pc := 88) C dX10_mean_88 (by decide) (fun h_88 => ?_) (fun h_88 => ?_)
      · refine V_aload_n (pc := 98) C 0 dX10_mean_98 rfl rfl ?_
        refine get_X10_103 (pc := 99) C (wg hG (by decide) (by decide)) dX10_mean_99 ?_
        refine V_i2l (pc := 102) C dX10_mean_102 ?_
        refine V_lload (pc := 103) C 3 dX10_mean_103 rfl ?_
        rw [hnb]
        refine V_ldiv (pc := 105) C dX10_mean_105 hz ?_
        refine V_lret (pc := 106) C hr hlk dX10_mean_106 ⟨_, rfl, ?_⟩
        rw [if_neg h_88] at hq
        rw [lM_div (by omega) ha]
        exact hq
      · refine V_lload_n (pc := 91) C 2 dX10_mean_91 rfl rfl ?_
        refine V_lload (pc := 92) C 3 dX10_mean_92 rfl ?_
        refine V_ldiv (pc := 94) C dX10_mean_94 hz ?_
        refine V_goto (tgt := 106) (pc := 95) C dX10_mean_95 (by decide) ?_
        refine V_lret (pc := 106) C hr hlk dX10_mean_106 ⟨_, rfl, ?_⟩
        rw [if_pos h_88] at hq
        rw [lM_div hS ha]
        exact hq
    · rw [lg_cmp_eq, lM_z hb2] at h_66
      have hz : ¬ (nI b).toInt64 = 0 := fun y => h_66 ((lM_z hb2).mp y)
      have hm := Nat.mod_lt a (show b > 0 by omega)
      refine V_lload (pc := 69) C 3 dX10_mean_69 rfl ?_
      refine V_lload (pc := 71) C 4 dX10_mean_71 rfl ?_
      refine V_lrem (pc := 73) C dX10_mean_73 hz ?_
      rw [lM_rem ha hb2]
      refine Vs_lstore (lv' := [(0, _), (1, _), (2, _), (4, _), (6, _), (8, _)]) (pc := 74) C dX10_mean_74 (by decide) rfl rfl ?_
      refine V_lload (pc := 76) C 4 dX10_mean_76 rfl ?_
      refine Vs_lstore (lv' := [(0, _), (1, _), (2, _), (4, _), (6, _), (8, _)]) (pc := 78) C dX10_mean_78 (by decide) rfl rfl ?_
      refine V_lload (pc := 80) C 5 dX10_mean_80 rfl ?_
      refine Vs_lstore (lv' := [(0, _), (1, _), (2, _), (4, _), (6, _), (8, _)]) (pc := 82) C dX10_mean_82 (by decide) rfl rfl ?_
      refine V_goto (tgt := 62) (pc := 84) C dX10_mean_84 (by decide) ?_
      refine V_loc (lv' := [(0, _), (1, _), (2, _), (4, _), (6, _)]) [0, 1, 2, 3, 4] rfl ?_
      exact ih b (a % b) (by omega) hb2 (by omega) (by rw [Nat.gcd_comm b, ← Nat.gcd_rec, Nat.gcd_comm]; exact e)
theorem lp_X10_mean {p : Program} {e : Env} {s : State} {m : MethodId} {args : Array Value} {below : List Frame} {meth : Method} {c : Code} (C : CX p s m args c cX10_mean 10 "CostsAgeModel" D cy ad G (wA ad G) (Rm d) d 0 0) (hr : meth.sig.returnType = (some .long)) (hlk : meth.locks = false) (hG : 56 ≤ G) (M : wS) {nb Sf : Nat} (hnb : M.1 30 0 12 = nI nb) (hn7 : nb ≤ 7) (hn0 : ¬ nb = 0) {y : Nat → Int32} (hy : ∀ k, k < 7 → M.1 36 0 k = y k) (hyb : ∀ k, k < 7 → 0 ≤ y k ∧ y k ≤ 99) (w : Int32) (hSf : Sf < 694) (Qf : Int64 → wS → Prop) (hq : Qf (if w = 0 then (nI (Sf / Nat.gcd Sf nb)).toInt64 else (nI (nb / Nat.gcd Sf nb)).toInt64) M) : ∀ (n t S : Nat) (s0 : Int64), s0 = (nI S).toInt64 → t + n = nb → S ≤ 99 * t → mSum y t n (nI S) = nI Sf → V p l e (Rm d) s m args below meth c 10 D cy ad G (wA ad G) 0 0 (MQ below (wQ D cy ad G (rL Qf)) args s 0 0 (wA ad G)) 26 [(0, .ref (ad 30 0)), (1, .int w), (2, .long s0), (4, .int (nI t))] [] M := by
  intro n
  induction n with
  | zero =>
    intro t S s0 hs0 ht hS e
    subst hs0
    have e2 : S = Sf := (nI_eq (by omega) (by omega)).mp e
    subst e2
    have hgp := Nat.gcd_pos_of_pos_right S (show 0 < nb by omega)
    have hgl := Nat.gcd_le_right S (show 0 < nb by omega)
    refine V_iload (pc := 26) C 3 dX10_mean_26 rfl ?_
    refine V_aload_n (pc := 28) C 0 dX10_mean_28 rfl rfl ?_
    refine get_X10_103 (pc := 29) C (wg hG (by decide) (by decide)) dX10_mean_29 ?_
    refine V_icmp_ge (tgt := 52) (pc := 32) C dX10_mean_32 (by decide) (fun h_32 => ?_) (fun h_32 => ?_)
    · skip
      refine V_lload_n (pc := 52) C 2 dX10_mean_52 rfl rfl ?_
      refine Vs_lstore (lv' := [(0, _), (1, _), (2, _), (4, _)]) (pc := 53) C dX10_mean_53 (by decide) rfl rfl ?_
      refine V_aload_n (pc := 55) C 0 dX10_mean_55 rfl rfl ?_
      refine get_X10_103 (pc := 56) C (wg hG (by decide) (by decide)) dX10_mean_56 ?_
      rw [hnb]
      refine V_i2l (pc := 59) C dX10_mean_59 ?_
      refine Vs_lstore (lv' := [(0, _), (1, _), (2, _), (4, _), (6, _)]) (pc := 60) C dX10_mean_60 (by decide) rfl rfl ?_
      exact lq_X10_mean C hr hlk hG M hnb hn7 w (by omega) (by omega) (by omega) Qf hq (nb + 1) S nb (by omega) (by omega) (by omega) rfl
    · rw [hnb] at h_32
      exact absurd (nI_le (by omega) (by omega)) h_32
  | succ n ih =>
    intro t S s0 hs0 ht hS e
    subst hs0
    obtain ⟨k, hk, ek⟩ := what_lt (n := 99) (hyb t (by omega)) (by decide)
    have ek2 := (hy t (by omega)).trans ek
    rw [mSum, ek, nI_add] at e
    refine V_iload (pc := 26) C 3 dX10_mean_26 rfl ?_
    refine V_aload_n (pc := 28) C 0 dX10_mean_28 rfl rfl ?_
    refine get_X10_103 (pc := 29) C (wg hG (by decide) (by decide)) dX10_mean_29 ?_
    refine V_icmp_ge (tgt := 52) (pc := 32) C dX10_mean_32 (by decide) (fun h_32 => ?_) (fun h_32 => ?_)
    · rw [hnb] at h_32
      exact absurd h_32 (nI_ge (by omega) (by omega))
    · refine V_lload_n (pc := 35) C 2 dX10_mean_35 rfl rfl ?_
      refine V_aload_n (pc := 36) C 0 dX10_mean_36 rfl rfl ?_
      refine get_X10_29 (pc := 37) C (wg hG (by decide) (by decide)) dX10_mean_37 ?_
      refine V_iload (pc := 40) C 3 dX10_mean_40 rfl ?_
      refine V_iald (pc := 42) C (t) rfl (by omega) (Nat.le_of_ble_eq_true rfl) (wg hG (by decide) (by decide)) wF_36 dX10_mean_42 ?_
      rw [ek2]
      refine V_i2l (pc := 43) C dX10_mean_43 ?_
      refine V_ladd (pc := 44) C dX10_mean_44 ?_
      rw [lM_add (by omega)]
      refine Vs_lstore_n (lv' := [(0, _), (1, _), (2, _), (4, _)]) (pc := 45) C dX10_mean_45 rfl (by decide) rfl rfl ?_
      refine Vs_iinc (v := nI (t + 1)) (lv' := [(0, _), (1, _), (2, _), (4, _)]) (pc := 46) C 3 dX10_mean_46 rfl (by decide) rfl (nI_i1 (t)) rfl ?_
      refine V_goto (tgt := 26) (pc := 49) C dX10_mean_49 (by decide) ?_
      exact ih (t + 1) (S + k) _ rfl (by omega) (by omega) e
theorem o_mean (hG : 56 ≤ G) (hd : 1 ≤ d) {M0 M : wS} {nb nt tc z bo r : Nat} (h : RR M0 M nb nt tc z bo r) (w : Int32) : Ctr l D cy ad G d yX10_mean cX10_mean 10 (some .long) [.ref (ad 30 0), .int w] M (rL fun x M' => M' = M ∧ x = kMean M0 nb w) := by
  obtain ⟨c1, c2, c3, c4, -⟩ := id h
  have hb7 := c1.1.2
  have hm := c4.1.1
  have hyb : ∀ k, k < 7 → 0 ≤ M0.1 27 0 k ∧ M0.1 27 0 k ≤ 99 := fun k hk => (c3 k hk).2.2.2.1
  obtain ⟨Sf, s1, s2⟩ := mSum_nI hyb nb 0 0 (by omega) (by omega)
  rw [show nI 0 = 0 from rfl] at s1
  refine Ctr.of (lv0 := [(0, _), (1, _)]) (by decide) (Nat.le_of_ble_eq_true rfl) rfl ?_
  intro p e s m args below meth c C hr hlk _
  have C : CX p s m args c cX10_mean 10 "CostsAgeModel" D cy ad G (wA ad G) (Rm d) d 0 0 := C
  refine V_iload_n (pc := 0) C 1 dX10_mean_0 rfl rfl ?_
  refine V_i2l (pc := 1) C dX10_mean_1 ?_
  refine V_lconst (v := 0) (pc := 2) C dX10_mean_2 (by decide) ?_
  refine V_lconst (v := 1) (pc := 3) C dX10_mean_3 (by decide) ?_
  refine call_X10_106 (pc := 4) C (c_in (d := d - 1) M w 0 1 (by decide) (by decide)) (by omega) (Nat.le_of_ble_eq_true rfl) dX10_mean_4 (fun x_4 M_4 h_4 => ?_)
  obtain ⟨e_4, rfl⟩ := h_4
  have e_4 := e_4.symm
  subst e_4
  refine V_if_eq (tgt := 17) (pc := 7) C dX10_mean_7 (by decide) (fun h_7 => ?_) (fun h_7 => ?_)
  · have h_7 := bJ_0.mp h_7
    refine V_ldc2 (pc := 17) C dX10_mean_17 qk_X10_321 ?_
    refine V_lret (pc := 20) C hr hlk dX10_mean_20 ⟨_, rfl, ?_⟩
    exact ⟨rfl, by rw [kMean, if_neg (fun y => h_7 y.1)]⟩
  · have h_7 := bJ_1.mp h_7
    skip
    refine V_aload_n (pc := 10) C 0 dX10_mean_10 rfl rfl ?_
    refine get_X10_103 (pc := 11) C (wg hG (by decide) (by decide)) dX10_mean_11 ?_
    rw [hm]
    refine V_if_ne (tgt := 21) (pc := 14) C dX10_mean_14 (by decide) (fun h_14 => ?_) (fun h_14 => ?_)
    · have h0 : ¬ nb = 0 := fun e => h_14 (by rw [e]; rfl)
      refine V_lconst (v := 0) (pc := 21) C dX10_mean_21 (by decide) ?_
      refine Vs_lstore_n (lv' := [(0, _), (1, _), (2, _)]) (pc := 22) C dX10_mean_22 rfl (by decide) rfl rfl ?_
      refine V_iconst (v := 0) (pc := 23) C dX10_mean_23 (by decide) ?_
      refine Vs_istore (lv' := [(0, _), (1, _), (2, _), (4, _)]) (pc := 24) C dX10_mean_24 (by decide) rfl rfl ?_
      exact lp_X10_mean C hr hlk hG M hm hb7 h0 (fun k hk => (c4.2.2 k hk).1.2.2.1) hyb w (by omega) _ ⟨rfl, (mean_val s1 (by omega) (by omega) hb7 h_7).symm⟩ nb 0 0 _ (by decide) (by omega) (by omega) s1
    · have h0 : nb = 0 := (nI_eq (b := 0) (by omega) (by decide)).mp h_14
      refine V_ldc2 (pc := 17) C dX10_mean_17 qk_X10_321 ?_
      refine V_lret (pc := 20) C hr hlk dX10_mean_20 ⟨_, rfl, ?_⟩
      exact ⟨rfl, by rw [kMean, if_neg (fun y => y.2 h0)]⟩
end S87
