def lRun (c y : Nat → Int32) : Nat → Nat → Int32 → Int32
  | _, 0, s => s
  | t, n + 1, s => lRun c y (t + 1) n (s ||| (if c t = y t then (0 : Int32) else (1 : Int32) <<< (nI t &&& 31)))
def kLies (M : wS) (nb : Nat) (sheet : Int32) : Int32 :=
  if 0 ≤ sheet ∧ sheet < 4 then (if M.1 9 sheet.toNatClampNeg 1 = -1 then -11 else if M.1 9 sheet.toNatClampNeg 2 = nI nb then lRun (M.1 10 sheet.toNatClampNeg) (M.1 27 0) 0 nb 0 else -2) else -2
section S38
variable {l : Launch} {D : va_G} {cy : Nat → ClassId} {ad : Nat → Nat → Nat} {G d : Nat}
theorem lp_X9_lies {p : Program} {e : Env} {s : State} {m : MethodId} {args : Array Value} {below : List Frame} {meth : Method} {c : Code} (C : CX p s m args c cX9_lies 5 "CostsAge" D cy ad G (wA ad G) (Rm d) d 0 0) (hr : meth.sig.returnType = (some .int)) (hlk : meth.locks = false) (hG : 30 ≤ G) (M : wS) {nb k : Nat} (hnb : M.1 0 0 11 = nI nb) (hn7 : nb ≤ 7) (hk : k < 4) (w : Int32) (Qf : Int32 → wS → Prop) : ∀ (n t : Nat) (s0 : Int32), t + n = nb → Qf (lRun (M.1 10 k) (M.1 27 0) t n s0) M → V p l e (Rm d) s m args below meth c 5 D cy ad G (wA ad G) 0 0 (MQ below (wQ D cy ad G (rI Qf)) args s 0 0 (wA ad G)) 46 [(0, .ref (ad 0 0)), (1, .int w), (2, .ref (ad 9 k)), (3, .int s0), (4, .int (nI t))] [] M := by
  intro n
  induction n with
  | zero =>
    intro t s0 ht hq
    refine V_iload (pc := 46) C 4 dX9_lies_46 rfl ?_
    refine V_aload_n (pc := 48) C 0 dX9_lies_48 rfl rfl ?_
    refine get_X9_106 (pc := 49) C (wg hG (by decide) (by decide)) dX9_lies_49 ?_
    refine V_icmp_ge (tgt := 92) (pc := 52) C dX9_lies_52 (by decide) (fun h_52 => ?_) (fun h_52 => ?_)
    · refine V_iload_n (pc := 92) C 3 dX9_lies_92 rfl rfl ?_
      refine V_iret (pc := 93) C hr hlk dX9_lies_93 ⟨_, rfl, ?_⟩
      exact hq
    · rw [hnb] at h_52
      exact absurd (nI_le (by omega) (by omega)) h_52
  | succ n ih =>
    intro t s0 ht hq
    refine V_iload (pc := 46) C 4 dX9_lies_46 rfl ?_
    refine V_aload_n (pc := 48) C 0 dX9_lies_48 rfl rfl ?_
    refine get_X9_106 (pc := 49) C (wg hG (by decide) (by decide)) dX9_lies_49 ?_
    refine V_icmp_ge (tgt := 92) (pc := 52) C dX9_lies_52 (by decide) (fun h_52 => ?_) (fun h_52 => ?_)
    · rw [hnb] at h_52
      exact absurd h_52 (nI_ge (by omega) (by omega))
    · refine V_iload_n (pc := 55) C 3 dX9_lies_55 rfl rfl ?_
      refine V_aload_n (pc := 56) C 2 dX9_lies_56 rfl rfl ?_
      refine get_X9_320 (pc := 57) C (wg hG (by decide) (show k < 4 from hk)) dX9_lies_57 ?_
      refine V_iload (pc := 60) C 4 dX9_lies_60 rfl ?_
      refine V_iald (pc := 62) C (t) rfl (by omega) (Nat.le_of_ble_eq_true rfl) (wg hG (by decide) (show k < 4 from hk)) wF_10 dX9_lies_62 ?_
      refine V_aload_n (pc := 63) C 0 dX9_lies_63 rfl rfl ?_
      refine get_X9_64 (pc := 64) C (wg hG (by decide) (by decide)) dX9_lies_64 ?_
      refine get_X9_118 (pc := 67) C (wg hG (by decide) (by decide)) dX9_lies_67 ?_
      refine V_iload (pc := 70) C 4 dX9_lies_70 rfl ?_
      refine V_iald (pc := 72) C (t) rfl (by omega) (Nat.le_of_ble_eq_true rfl) (wg hG (by decide) (by decide)) wF_27 dX9_lies_72 ?_
      refine V_icmp_ne (tgt := 80) (pc := 73) C dX9_lies_73 (by decide) (fun h_73 => ?_) (fun h_73 => ?_)
      · refine V_iconst (v := 1) (pc := 80) C dX9_lies_80 (by decide) ?_
        refine V_iload (pc := 81) C 4 dX9_lies_81 rfl ?_
        refine V_ishl (pc := 83) C dX9_lies_83 ?_
        refine V_ior (pc := 84) C dX9_lies_84 ?_
        refine Vs_istore_n (lv' := [(0, _), (1, _), (2, _), (3, _), (4, _)]) (pc := 85) C dX9_lies_85 rfl (by decide) rfl rfl ?_
        refine Vs_iinc (v := nI (t + 1)) (lv' := [(0, _), (1, _), (2, _), (3, _), (4, _)]) (pc := 86) C 4 dX9_lies_86 rfl (by decide) rfl (nI_i1 (t)) rfl ?_
        refine V_goto (tgt := 46) (pc := 89) C dX9_lies_89 (by decide) ?_
        refine ih (t + 1) _ (by omega) ?_
        first | (rw [lRun, if_neg h_73] at hq; exact hq) | (rw [lRun, if_pos h_73] at hq; exact hq)
      · refine V_iconst (v := 0) (pc := 76) C dX9_lies_76 (by decide) ?_
        refine V_goto (tgt := 84) (pc := 77) C dX9_lies_77 (by decide) ?_
        refine V_ior (pc := 84) C dX9_lies_84 ?_
        refine Vs_istore_n (lv' := [(0, _), (1, _), (2, _), (3, _), (4, _)]) (pc := 85) C dX9_lies_85 rfl (by decide) rfl rfl ?_
        refine Vs_iinc (v := nI (t + 1)) (lv' := [(0, _), (1, _), (2, _), (3, _), (4, _)]) (pc := 86) C 4 dX9_lies_86 rfl (by decide) rfl (nI_i1 (t)) rfl ?_
        refine V_goto (tgt := 46) (pc := 89) C dX9_lies_89 (by decide) ?_
        refine ih (t + 1) _ (by omega) ?_
        first | (rw [lRun, if_neg h_73] at hq; exact hq) | (rw [lRun, if_pos h_73] at hq; exact hq)
theorem c_X9_lies (hG : 30 ≤ G) (hd : 1 ≤ d) (M : wS) {nb : Nat} (hnb : M.1 0 0 11 = nI nb) (hn7 : nb ≤ 7) (sheet : Int32) : Ctr l D cy ad G d yX9_lies cX9_lies 5 (some .int) [.ref (ad 0 0), .int sheet] M (rI fun x M' => M' = M ∧ x = kLies M nb sheet) := by
  refine Ctr.of (lv0 := [(0, _), (1, _)]) (by decide) (Nat.le_of_ble_eq_true rfl) rfl ?_
  intro p e s m args below meth c C hr hlk _
  have C : CX p s m args c cX9_lies 5 "CostsAge" D cy ad G (wA ad G) (Rm d) d 0 0 := C
  refine V_iload_n (pc := 0) C 1 dX9_lies_0 rfl rfl ?_
  refine call_X9_312 (pc := 1) C (c_X9_isSheet (d := d - 1) M _) (by omega) (Nat.le_of_ble_eq_true rfl) dX9_lies_1 (fun x_1 M_1 h_1 => ?_)
  obtain ⟨e_1, rfl⟩ := h_1
  have e_1 := e_1.symm
  subst e_1
  refine V_if_ne (tgt := 10) (pc := 4) C dX9_lies_4 (by decide) (fun h_4 => ?_) (fun h_4 => ?_)
  · have h_4 := bJ_1.mp h_4
    obtain ⟨k, hk4, rfl⟩ := ix_of (n := 4) h_4.1 h_4.2 (by decide)
    have ek : (nI k).toNatClampNeg = k := nI_clamp (by omega)
    refine V_aload_n (pc := 10) C 0 dX9_lies_10 rfl rfl ?_
    refine get_X9_29 (pc := 11) C (wg hG (by decide) (by decide)) dX9_lies_11 ?_
    refine V_iload_n (pc := 14) C 1 dX9_lies_14 rfl rfl ?_
    refine V_aald (pc := 15) C (k) rfl hk4 (Nat.le_of_ble_eq_true rfl) (wg hG (by decide) (by decide)) wF_4 rfl dX9_lies_15 ?_
    refine Vs_astore_n (lv' := [(0, _), (1, _), (2, _)]) (pc := 16) C dX9_lies_16 rfl (by decide) rfl rfl ?_
    refine V_aload_n (pc := 17) C 2 dX9_lies_17 rfl rfl ?_
    refine call_X9_315 (pc := 18) C (c_X5_isMissing (d := d - 1) hG M hk4) (by omega) (wg hG (by decide) (show (k) < 4 from hk4)) (Nat.le_of_ble_eq_true rfl) dX9_lies_18 (fun x_18 M_18 h_18 => ?_)
    obtain ⟨e_18, rfl⟩ := h_18
    have e_18 := e_18.symm
    subst e_18
    refine V_if_eq (tgt := 27) (pc := 21) C dX9_lies_21 (by decide) (fun h_21 => ?_) (fun h_21 => ?_)
    · have h_21 := bJ_0.mp h_21
      refine V_aload_n (pc := 27) C 2 dX9_lies_27 rfl rfl ?_
      refine get_X9_319 (pc := 28) C (wg hG (by decide) (show (k) < 4 from hk4)) dX9_lies_28 ?_
      refine V_aload_n (pc := 31) C 0 dX9_lies_31 rfl rfl ?_
      refine get_X9_106 (pc := 32) C (wg hG (by decide) (by decide)) dX9_lies_32 ?_
      refine V_icmp_eq (tgt := 41) (pc := 35) C dX9_lies_35 (by decide) (fun h_35 => ?_) (fun h_35 => ?_)
      · rw [hnb] at h_35
        refine V_iconst (v := 0) (pc := 41) C dX9_lies_41 (by decide) ?_
        refine Vs_istore_n (lv' := [(0, _), (1, _), (2, _), (3, _)]) (pc := 42) C dX9_lies_42 rfl (by decide) rfl rfl ?_
        refine V_iconst (v := 0) (pc := 43) C dX9_lies_43 (by decide) ?_
        refine Vs_istore (lv' := [(0, _), (1, _), (2, _), (3, _), (4, _)]) (pc := 44) C dX9_lies_44 (by decide) rfl rfl ?_
        exact lp_X9_lies C hr hlk hG M hnb hn7 hk4 _ _ nb 0 0 (by omega) ⟨rfl, by rw [kLies, if_pos h_4, ek, if_neg h_21, if_pos h_35]⟩
      · rw [hnb] at h_35
        refine V_bipush (v := -2) (pc := 38) C dX9_lies_38 (by decide) ?_
        refine V_iret (pc := 40) C hr hlk dX9_lies_40 ⟨_, rfl, ?_⟩
        exact ⟨rfl, by rw [kLies, if_pos h_4, ek, if_neg h_21, if_neg h_35]⟩
    · have h_21 := bJ_1.mp h_21
      refine V_bipush (v := -11) (pc := 24) C dX9_lies_24 (by decide) ?_
      refine V_iret (pc := 26) C hr hlk dX9_lies_26 ⟨_, rfl, ?_⟩
      exact ⟨rfl, by rw [kLies, if_pos h_4, ek, if_pos h_21]⟩
  · have h_4 := bJ_0.mp h_4
    refine V_bipush (v := -2) (pc := 7) C dX9_lies_7 (by decide) ?_
    refine V_iret (pc := 9) C hr hlk dX9_lies_9 ⟨_, rfl, ?_⟩
    exact ⟨rfl, by rw [kLies, if_neg h_4]⟩
def mSum (y : Nat → Int32) : Nat → Nat → Int32 → Int32
  | _, 0, s => s
  | t, n + 1, s => mSum y (t + 1) n (s + y t)
def mDiv (s q : Int32) : Nat → Nat
  | 0 => 1
  | c + 1 => if s - s / nI (c + 2) * nI (c + 2) = 0 ∧ q - q / nI (c + 2) * nI (c + 2) = 0 then c + 2 else mDiv s q c
def kMean (M : wS) (nb : Nat) (w : Int32) : Int64 :=
  if (0 ≤ w ∧ w ≤ 1) ∧ ¬ nb = 0 then ((if w = 0 then mSum (M.1 27 0) 0 nb 0 else nI nb) / nI (mDiv (mSum (M.1 27 0) 0 nb 0) (nI nb) (nb - 1))).toInt64 else -4611686018427387904
theorem mDiv_n {s q : Int32} {c : Nat} (h : ¬ (s - s / nI (c + 2) * nI (c + 2) = 0 ∧ q - q / nI (c + 2) * nI (c + 2) = 0)) : mDiv s q (c + 1) = mDiv s q c := if_neg h
theorem mDiv_y {s q : Int32} {c : Nat} (h : s - s / nI (c + 2) * nI (c + 2) = 0 ∧ q - q / nI (c + 2) * nI (c + 2) = 0) : mDiv s q (c + 1) = c + 2 := if_pos h
theorem mDiv_r (s q : Int32) : ∀ c : Nat, 1 ≤ mDiv s q c ∧ mDiv s q c ≤ c + 1 := by
  intro c
  induction c with
  | zero => exact ⟨Nat.le_refl _, Nat.le_refl _⟩
  | succ c ih =>
    unfold mDiv
    split
    · omega
    · omega
theorem nI_nz {n : Nat} (h : 1 ≤ n) (h2 : n < 2 ^ 31) : ¬ nI n = 0 := by
  intro e
  have := congrArg Int32.toNatClampNeg e
  rw [nI_clamp h2] at this
  simp at this
  omega
theorem lq_X9_mean {p : Program} {e : Env} {s : State} {m : MethodId} {args : Array Value} {below : List Frame} {meth : Method} {c : Code} (C : CX p s m args c cX9_mean 4 "CostsAge" D cy ad G (wA ad G) (Rm d) d 0 0) (hr : meth.sig.returnType = (some .long)) (hlk : meth.locks = false) (hG : 30 ≤ G) (M : wS) {nb : Nat} (hnb : M.1 0 0 11 = nI nb) (hn7 : nb ≤ 7) (w s0 : Int32) (Qf : Int64 → wS → Prop) : ∀ (n : Nat), n < 7 → Qf ((if w = 0 then s0 else nI nb) / nI (mDiv s0 (nI nb) n)).toInt64 M → V p l e (Rm d) s m args below meth c 4 D cy ad G (wA ad G) 0 0 (MQ below (wQ D cy ad G (rL Qf)) args s 0 0 (wA ad G)) 54 [(0, .ref (ad 0 0)), (1, .int w), (2, .int s0), (3, .int (nI (n + 1)))] [] M := by
  intro n
  induction n with
  | zero =>
    intro hn hq
    refine V_iload_n (pc := 54) C 3 dX9_mean_54 rfl rfl ?_
    refine V_iconst (v := 1) (pc := 55) C dX9_mean_55 (by decide) ?_
    refine V_icmp_le (tgt := 80) (pc := 56) C dX9_mean_56 (by decide) (fun h_56 => ?_) (fun h_56 => ?_)
    · refine V_iload_n (pc := 80) C 1 dX9_mean_80 rfl rfl ?_
      refine V_if_ne (tgt := 88) (pc := 81) C dX9_mean_81 (by decide) (fun h_81 => ?_) (fun h_81 => ?_)
      · refine V_aload_n (pc := 88) C 0 dX9_mean_88 rfl rfl ?_
        refine get_X9_106 (pc := 89) C (wg hG (by decide) (by decide)) dX9_mean_89 ?_
        refine V_iload_n (pc := 92) C 3 dX9_mean_92 rfl rfl ?_
        refine V_idiv (pc := 93) C dX9_mean_93 (nI_nz (by omega) (by omega)) ?_
        refine V_i2l (pc := 94) C dX9_mean_94 ?_
        refine V_lret (pc := 95) C hr hlk dX9_mean_95 ⟨_, rfl, ?_⟩
        first | (rw [if_neg h_81, ← hnb] at hq; exact hq) | (rw [if_pos h_81] at hq; exact hq)
      · refine V_iload_n (pc := 84) C 2 dX9_mean_84 rfl rfl ?_
        refine V_goto (tgt := 92) (pc := 85) C dX9_mean_85 (by decide) ?_
        refine V_iload_n (pc := 92) C 3 dX9_mean_92 rfl rfl ?_
        refine V_idiv (pc := 93) C dX9_mean_93 (nI_nz (by omega) (by omega)) ?_
        refine V_i2l (pc := 94) C dX9_mean_94 ?_
        refine V_lret (pc := 95) C hr hlk dX9_mean_95 ⟨_, rfl, ?_⟩
        first | (rw [if_neg h_81, ← hnb] at hq; exact hq) | (rw [if_pos h_81] at hq; exact hq)
    · exact absurd (by decide) h_56
  | succ n ih =>
    intro hn hq
    refine V_iload_n (pc := 54) C 3 dX9_mean_54 rfl rfl ?_
    refine V_iconst (v := 1) (pc := 55) C dX9_mean_55 (by decide) ?_
    refine V_icmp_le (tgt := 80) (pc := 56) C dX9_mean_56 (by decide) (fun h_56 => ?_) (fun h_56 => ?_)
    · exact absurd h_56 (by (simp only [i32_eq, Int32.le_iff_toInt_le, Int32.lt_iff_toInt_lt, Int32.not_le, Int32.not_lt, Int32.toInt_add, Int32.toInt_sub, Int32.toInt_mul, Int32.toInt_neg, Int32.toInt_div, tdv2, tdv4, tdv10, tdv52, tdv100, nI_T, apply_ite Int32.toInt, Int.bmod, Int32.reduceToInt] at *; omega))
    · refine V_iload_n (pc := 59) C 2 dX9_mean_59 rfl rfl ?_
      refine V_iload_n (pc := 60) C 3 dX9_mean_60 rfl rfl ?_
      refine V_irem (pc := 61) C dX9_mean_61 (nI_nz (by omega) (by omega)) ?_
      refine V_if_ne (tgt := 74) (pc := 62) C dX9_mean_62 (by decide) (fun h_62 => ?_) (fun h_62 => ?_)
      · refine Vs_iinc (v := nI (n + 1)) (lv' := [(0, _), (1, _), (2, _), (3, _)]) (pc := 74) C 3 dX9_mean_74 rfl (by decide) rfl (pk_m1 (n + 1)) rfl ?_
        refine V_goto (tgt := 54) (pc := 77) C dX9_mean_77 (by decide) ?_
        refine ih (by omega) ?_
        rw [mDiv_n (by rw [← hnb]; intro z; first | exact h_62 z.1 | exact h_71 z.2)] at hq
        exact hq
      · refine V_aload_n (pc := 65) C 0 dX9_mean_65 rfl rfl ?_
        refine get_X9_106 (pc := 66) C (wg hG (by decide) (by decide)) dX9_mean_66 ?_
        refine V_iload_n (pc := 69) C 3 dX9_mean_69 rfl rfl ?_
        refine V_irem (pc := 70) C dX9_mean_70 (nI_nz (by omega) (by omega)) ?_
        refine V_if_eq (tgt := 80) (pc := 71) C dX9_mean_71 (by decide) (fun h_71 => ?_) (fun h_71 => ?_)
        · refine V_iload_n (pc := 80) C 1 dX9_mean_80 rfl rfl ?_
          refine V_if_ne (tgt := 88) (pc := 81) C dX9_mean_81 (by decide) (fun h_81 => ?_) (fun h_81 => ?_)
          · rw [mDiv_y (by rw [← hnb]; exact ⟨h_62, h_71⟩)] at hq
            refine V_aload_n (pc := 88) C 0 dX9_mean_88 rfl rfl ?_
            refine get_X9_106 (pc := 89) C (wg hG (by decide) (by decide)) dX9_mean_89 ?_
            refine V_iload_n (pc := 92) C 3 dX9_mean_92 rfl rfl ?_
            refine V_idiv (pc := 93) C dX9_mean_93 (nI_nz (by omega) (by omega)) ?_
            refine V_i2l (pc := 94) C dX9_mean_94 ?_
            refine V_lret (pc := 95) C hr hlk dX9_mean_95 ⟨_, rfl, ?_⟩
            first | (rw [if_neg h_81, ← hnb] at hq; exact hq) | (rw [if_pos h_81] at hq; exact hq)
          · rw [mDiv_y (by rw [← hnb]; exact ⟨h_62, h_71⟩)] at hq
            refine V_iload_n (pc := 84) C 2 dX9_mean_84 rfl rfl ?_
            refine V_goto (tgt := 92) (pc := 85) C dX9_mean_85 (by decide) ?_
            refine V_iload_n (pc := 92) C 3 dX9_mean_92 rfl rfl ?_
            refine V_idiv (pc := 93) C dX9_mean_93 (nI_nz (by omega) (by omega)) ?_
            refine V_i2l (pc := 94) C dX9_mean_94 ?_
            refine V_lret (pc := 95) C hr hlk dX9_mean_95 ⟨_, rfl, ?_⟩
            first | (rw [if_neg h_81, ← hnb] at hq; exact hq) | (rw [if_pos h_81] at hq; exact hq)
        · refine Vs_iinc (v := nI (n + 1)) (lv' := [(0, _), (1, _), (2, _), (3, _)]) (pc := 74) C 3 dX9_mean_74 rfl (by decide) rfl (pk_m1 (n + 1)) rfl ?_
          refine V_goto (tgt := 54) (pc := 77) C dX9_mean_77 (by decide) ?_
          refine ih (by omega) ?_
          rw [mDiv_n (by rw [← hnb]; intro z; first | exact h_62 z.1 | exact h_71 z.2)] at hq
          exact hq
theorem lp_X9_mean {p : Program} {e : Env} {s : State} {m : MethodId} {args : Array Value} {below : List Frame} {meth : Method} {c : Code} (C : CX p s m args c cX9_mean 4 "CostsAge" D cy ad G (wA ad G) (Rm d) d 0 0) (hr : meth.sig.returnType = (some .long)) (hlk : meth.locks = false) (hG : 30 ≤ G) (M : wS) {nb : Nat} (hnb : M.1 0 0 11 = nI nb) (hn7 : nb ≤ 7) (hn0 : ¬ nb = 0) (w : Int32) (Qf : Int64 → wS → Prop) : ∀ (n t : Nat) (s0 : Int32), t + n = nb → Qf ((if w = 0 then mSum (M.1 27 0) t n s0 else nI nb) / nI (mDiv (mSum (M.1 27 0) t n s0) (nI nb) (nb - 1))).toInt64 M → V p l e (Rm d) s m args below meth c 4 D cy ad G (wA ad G) 0 0 (MQ below (wQ D cy ad G (rL Qf)) args s 0 0 (wA ad G)) 23 [(0, .ref (ad 0 0)), (1, .int w), (2, .int s0), (3, .int (nI t))] [] M := by
  intro n
  induction n with
  | zero =>
    intro t s0 ht hq
    refine V_iload_n (pc := 23) C 3 dX9_mean_23 rfl rfl ?_
    refine V_aload_n (pc := 24) C 0 dX9_mean_24 rfl rfl ?_
    refine get_X9_106 (pc := 25) C (wg hG (by decide) (by decide)) dX9_mean_25 ?_
    refine V_icmp_ge (tgt := 49) (pc := 28) C dX9_mean_28 (by decide) (fun h_28 => ?_) (fun h_28 => ?_)
    · refine V_aload_n (pc := 49) C 0 dX9_mean_49 rfl rfl ?_
      refine get_X9_106 (pc := 50) C (wg hG (by decide) (by decide)) dX9_mean_50 ?_
      rw [hnb, show nb = nb - 1 + 1 from by omega]
      refine Vs_istore_n (lv' := [(0, _), (1, _), (2, _), (3, _)]) (pc := 53) C dX9_mean_53 rfl (by decide) rfl rfl ?_
      exact lq_X9_mean C hr hlk hG M hnb hn7 w s0 Qf (nb - 1) (by omega) hq
    · rw [hnb] at h_28
      exact absurd (nI_le (by omega) (by omega)) h_28
  | succ n ih =>
    intro t s0 ht hq
    refine V_iload_n (pc := 23) C 3 dX9_mean_23 rfl rfl ?_
    refine V_aload_n (pc := 24) C 0 dX9_mean_24 rfl rfl ?_
    refine get_X9_106 (pc := 25) C (wg hG (by decide) (by decide)) dX9_mean_25 ?_
    refine V_icmp_ge (tgt := 49) (pc := 28) C dX9_mean_28 (by decide) (fun h_28 => ?_) (fun h_28 => ?_)
    · rw [hnb] at h_28
      exact absurd h_28 (nI_ge (by omega) (by omega))
    · refine V_iload_n (pc := 31) C 2 dX9_mean_31 rfl rfl ?_
      refine V_aload_n (pc := 32) C 0 dX9_mean_32 rfl rfl ?_
      refine get_X9_64 (pc := 33) C (wg hG (by decide) (by decide)) dX9_mean_33 ?_
      refine get_X9_118 (pc := 36) C (wg hG (by decide) (by decide)) dX9_mean_36 ?_
      refine V_iload_n (pc := 39) C 3 dX9_mean_39 rfl rfl ?_
      refine V_iald (pc := 40) C (t) rfl (by omega) (Nat.le_of_ble_eq_true rfl) (wg hG (by decide) (by decide)) wF_27 dX9_mean_40 ?_
      refine V_iadd (pc := 41) C dX9_mean_41 ?_
      refine Vs_istore_n (lv' := [(0, _), (1, _), (2, _), (3, _)]) (pc := 42) C dX9_mean_42 rfl (by decide) rfl rfl ?_
      refine Vs_iinc (v := nI (t + 1)) (lv' := [(0, _), (1, _), (2, _), (3, _)]) (pc := 43) C 3 dX9_mean_43 rfl (by decide) rfl (nI_i1 (t)) rfl ?_
      refine V_goto (tgt := 23) (pc := 46) C dX9_mean_46 (by decide) ?_
      exact ih (t + 1) _ (by omega) hq
theorem c_X9_mean (hG : 30 ≤ G) (hd : 1 ≤ d) (M : wS) {nb : Nat} (hnb : M.1 0 0 11 = nI nb) (hn7 : nb ≤ 7) (w : Int32) : Ctr l D cy ad G d yX9_mean cX9_mean 4 (some .long) [.ref (ad 0 0), .int w] M (rL fun x M' => M' = M ∧ x = kMean M nb w) := by
  refine Ctr.of (lv0 := [(0, _), (1, _)]) (by decide) (Nat.le_of_ble_eq_true rfl) rfl ?_
  intro p e s m args below meth c C hr hlk _
  have C : CX p s m args c cX9_mean 4 "CostsAge" D cy ad G (wA ad G) (Rm d) d 0 0 := C
  refine V_iload_n (pc := 0) C 1 dX9_mean_0 rfl rfl ?_
  refine V_iconst (v := 1) (pc := 1) C dX9_mean_1 (by decide) ?_
  refine call_X9_102 (pc := 2) C (c_X9_isWithin (d := d - 1) M _ _) (by omega) (Nat.le_of_ble_eq_true rfl) dX9_mean_2 (fun x_2 M_2 h_2 => ?_)
  obtain ⟨e_2, rfl⟩ := h_2
  have e_2 := e_2.symm
  subst e_2
  refine V_if_eq (tgt := 15) (pc := 5) C dX9_mean_5 (by decide) (fun h_5 => ?_) (fun h_5 => ?_)
  · have h_5 := bJ_0.mp h_5
    refine V_ldc2 (pc := 15) C dX9_mean_15 qk_X9_282 ?_
    refine V_lret (pc := 18) C hr hlk dX9_mean_18 ⟨_, rfl, ?_⟩
    exact ⟨rfl, by rw [kMean, if_neg (fun z => h_5 z.1)]⟩
  · have h_5 := bJ_1.mp h_5
    refine V_aload_n (pc := 8) C 0 dX9_mean_8 rfl rfl ?_
    refine get_X9_106 (pc := 9) C (wg hG (by decide) (by decide)) dX9_mean_9 ?_
    refine V_if_ne (tgt := 19) (pc := 12) C dX9_mean_12 (by decide) (fun h_12 => ?_) (fun h_12 => ?_)
    · have h9 : ¬ nb = 0 := fun e => h_12 (by rw [hnb, e]; rfl)
      refine V_iconst (v := 0) (pc := 19) C dX9_mean_19 (by decide) ?_
      refine Vs_istore_n (lv' := [(0, _), (1, _), (2, _)]) (pc := 20) C dX9_mean_20 rfl (by decide) rfl rfl ?_
      refine V_iconst (v := 0) (pc := 21) C dX9_mean_21 (by decide) ?_
      refine Vs_istore_n (lv' := [(0, _), (1, _), (2, _), (3, _)]) (pc := 22) C dX9_mean_22 rfl (by decide) rfl rfl ?_
      exact lp_X9_mean C hr hlk hG M hnb hn7 h9 w _ nb 0 0 (by omega) ⟨rfl, (if_pos (c := (0 ≤ w ∧ w ≤ 1) ∧ ¬ nb = 0) ⟨h_5, h9⟩).symm⟩
    · refine V_ldc2 (pc := 15) C dX9_mean_15 qk_X9_282 ?_
      refine V_lret (pc := 18) C hr hlk dX9_mean_18 ⟨_, rfl, ?_⟩
      exact ⟨rfl, by rw [kMean, if_neg (fun z => nI_nz (n := nb) (by omega) (by omega) (by rw [← hnb]; exact h_12))]⟩
end S38
