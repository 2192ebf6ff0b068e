theorem sp_n {sz j n : Int32} (h40 : sz ≤ 40) (h : 0 ≤ n ∧ n ≤ sz ∧ 0 ≤ j ∧ j ≤ sz - n) : ∃ k, k < 41 ∧ n = nI k := ix_of (n := 41) h.1 (by obtain ⟨h1, h2, -, -⟩ := h; (simp only [i32_eq, Int32.le_iff_toInt_le, Int32.lt_iff_toInt_lt, Int32.not_le, Int32.not_lt, Int32.toInt_add, Int32.toInt_sub, Int32.toInt_mul, Int32.toInt_neg, Int32.toInt_div, tdv2, tdv4, tdv10, tdv52, tdv100, nI_T, apply_ite Int32.toInt, Int.bmod, Int32.reduceToInt] at *; omega)) (by decide)
theorem sp_j {sz j : Int32} {k : Nat} (hk : k < 41) (h40 : sz ≤ 40) (h : 0 ≤ nI k ∧ nI k ≤ sz ∧ 0 ≤ j ∧ j ≤ sz - nI k) : ∃ x, x + k ≤ 40 ∧ j = nI x := by
  obtain ⟨h1, h2, h3, h4⟩ := h
  obtain ⟨x, hx, rfl⟩ := ix_of (x := j) (n := 41) h3 (by (simp only [i32_eq, Int32.le_iff_toInt_le, Int32.lt_iff_toInt_lt, Int32.not_le, Int32.not_lt, Int32.toInt_add, Int32.toInt_sub, Int32.toInt_mul, Int32.toInt_neg, Int32.toInt_div, tdv2, tdv4, tdv10, tdv52, tdv100, nI_T, apply_ite Int32.toInt, Int.bmod, Int32.reduceToInt] at *; omega)) (by decide)
  exact ⟨x, by (simp only [i32_eq, Int32.le_iff_toInt_le, Int32.lt_iff_toInt_lt, Int32.not_le, Int32.not_lt, Int32.toInt_add, Int32.toInt_sub, Int32.toInt_mul, Int32.toInt_neg, Int32.toInt_div, tdv2, tdv4, tdv10, tdv52, tdv100, nI_T, apply_ite Int32.toInt, Int.bmod, Int32.reduceToInt] at *; omega), rfl⟩
def kSp (M : wS) (k : Nat) (j n : Int32) : Bool := decide (0 ≤ n ∧ n ≤ M.1 9 k 2 ∧ 0 ≤ j ∧ j ≤ M.1 9 k 2 - n)
def kCopy (M : wS) (a i b j n : Int32) : Int32 × wS :=
  if (0 ≤ a ∧ a < 4) ∧ (0 ≤ b ∧ b < 4) then
    (if M.1 9 a.toNatClampNeg 1 = -1 ∨ M.1 9 b.toNatClampNeg 1 = -1 then (-11, M)
     else if M.1 9 a.toNatClampNeg 1 = M.1 9 b.toNatClampNeg 1 then
       (if kSp M a.toNatClampNeg i n = true ∧ kSp M b.toNatClampNeg j n = true then (n, mrow M 10 b.toNatClampNeg (va_cpy (M.1 10 a.toNatClampNeg) (M.1 10 b.toNatClampNeg) i.toNatClampNeg j.toNatClampNeg n.toNatClampNeg)) else (-12, M))
     else (-13, M))
  else (-2, M)
section S37
variable {l : Launch} {D : va_G} {cy : Nat → ClassId} {ad : Nat → Nat → Nat} {G d : Nat}
theorem c_X9_copy (hG : 30 ≤ G) (hd : 1 ≤ d) (M : wS) (hs : ∀ k, k < 4 → M.1 9 k 2 ≤ 40) (a i b j n : Int32) : Ctr l D cy ad G d yX9_copy cX9_copy 8 (some .int) [.ref (ad 0 0), .int a, .int i, .int b, .int j, .int n] M (rI fun x M' => (x, M') = kCopy M a i b j n) := by
  refine Ctr.of (lv0 := [(0, _), (1, _), (2, _), (3, _), (4, _), (5, _)]) (by decide) (Nat.le_of_ble_eq_true rfl) rfl ?_
  intro p e s m args below meth c C hr hlk _
  have C : CX p s m args c cX9_copy 8 "CostsAge" D cy ad G (wA ad G) (Rm d) d 0 0 := C
  refine V_iload_n (pc := 0) C 1 dX9_copy_0 rfl rfl ?_
  refine call_X9_312 (pc := 1) C (c_X9_isSheet (d := d - 1) M _) (by omega) (Nat.le_of_ble_eq_true rfl) dX9_copy_1 (fun x_1 M_1 h_1 => ?_)
  obtain ⟨e_1, rfl⟩ := h_1
  have e_1 := e_1.symm
  subst e_1
  refine V_if_eq (tgt := 14) (pc := 4) C dX9_copy_4 (by decide) (fun h_4 => ?_) (fun h_4 => ?_)
  · have h_4 := bJ_0.mp h_4
    refine V_bipush (v := -2) (pc := 14) C dX9_copy_14 (by decide) ?_
    refine V_iret (pc := 16) C hr hlk dX9_copy_16 ⟨_, rfl, ?_⟩
    rw [kCopy, if_neg (fun z => h_4 z.1)]
  · have h_4 := bJ_1.mp h_4
    obtain ⟨k, hk4, rfl⟩ := ix_of (n := 4) h_4.1 h_4.2 (by decide)
    have ek : (nI k).toNatClampNeg = k := nI_clamp (by omega)
    refine V_iload_n (pc := 7) C 3 dX9_copy_7 rfl rfl ?_
    refine call_X9_312 (pc := 8) C (c_X9_isSheet (d := d - 1) M _) (by omega) (Nat.le_of_ble_eq_true rfl) dX9_copy_8 (fun x_8 M_8 h_8 => ?_)
    obtain ⟨e_8, rfl⟩ := h_8
    have e_8 := e_8.symm
    subst e_8
    refine V_if_ne (tgt := 17) (pc := 11) C dX9_copy_11 (by decide) (fun h_11 => ?_) (fun h_11 => ?_)
    · have h_11 := bJ_1.mp h_11
      obtain ⟨k2, hk5, rfl⟩ := ix_of (n := 4) h_11.1 h_11.2 (by decide)
      have ek2 : (nI k2).toNatClampNeg = k2 := nI_clamp (by omega)
      refine V_aload_n (pc := 17) C 0 dX9_copy_17 rfl rfl ?_
      refine get_X9_29 (pc := 18) C (wg hG (by decide) (by decide)) dX9_copy_18 ?_
      refine V_iload_n (pc := 21) C 1 dX9_copy_21 rfl rfl ?_
      refine V_aald (pc := 22) C (k) rfl hk4 (Nat.le_of_ble_eq_true rfl) (wg hG (by decide) (by decide)) wF_4 rfl dX9_copy_22 ?_
      refine Vs_astore (lv' := [(0, _), (1, _), (2, _), (3, _), (4, _), (5, _), (6, _)]) (pc := 23) C dX9_copy_23 (by decide) rfl rfl ?_
      refine V_aload_n (pc := 25) C 0 dX9_copy_25 rfl rfl ?_
      refine get_X9_29 (pc := 26) C (wg hG (by decide) (by decide)) dX9_copy_26 ?_
      refine V_iload_n (pc := 29) C 3 dX9_copy_29 rfl rfl ?_
      refine V_aald (pc := 30) C (k2) rfl hk5 (Nat.le_of_ble_eq_true rfl) (wg hG (by decide) (by decide)) wF_4 rfl dX9_copy_30 ?_
      refine Vs_astore (lv' := [(0, _), (1, _), (2, _), (3, _), (4, _), (5, _), (6, _), (7, _)]) (pc := 31) C dX9_copy_31 (by decide) rfl rfl ?_
      refine V_aload (pc := 33) C 6 dX9_copy_33 rfl ?_
      refine call_X9_315 (pc := 35) C (c_X5_isMissing (d := d - 1) hG M hk4) (by omega) (wg hG (by decide) (show (k) < 4 from hk4)) (Nat.le_of_ble_eq_true rfl) dX9_copy_35 (fun x_35 M_35 h_35 => ?_)
      obtain ⟨e_35, rfl⟩ := h_35
      have e_35 := e_35.symm
      subst e_35
      refine V_if_ne (tgt := 49) (pc := 38) C dX9_copy_38 (by decide) (fun h_38 => ?_) (fun h_38 => ?_)
      · have h_38 := bJ_1.mp h_38
        refine V_bipush (v := -11) (pc := 49) C dX9_copy_49 (by decide) ?_
        refine V_iret (pc := 51) C hr hlk dX9_copy_51 ⟨_, rfl, ?_⟩
        rw [kCopy, if_pos ⟨h_4, h_11⟩, ek, ek2, if_pos (by first | exact Or.inl h_38 | exact Or.inr h_46)]
      · have h_38 := bJ_0.mp h_38
        refine V_aload (pc := 41) C 7 dX9_copy_41 rfl ?_
        refine call_X9_315 (pc := 43) C (c_X5_isMissing (d := d - 1) hG M hk5) (by omega) (wg hG (by decide) (show (k2) < 4 from hk5)) (Nat.le_of_ble_eq_true rfl) dX9_copy_43 (fun x_43 M_43 h_43 => ?_)
        obtain ⟨e_43, rfl⟩ := h_43
        have e_43 := e_43.symm
        subst e_43
        refine V_if_eq (tgt := 52) (pc := 46) C dX9_copy_46 (by decide) (fun h_46 => ?_) (fun h_46 => ?_)
        · have h_46 := bJ_0.mp h_46
          refine V_aload (pc := 52) C 6 dX9_copy_52 rfl ?_
          refine get_X9_348 (pc := 54) C (wg hG (by decide) (show (k) < 4 from hk4)) dX9_copy_54 ?_
          refine V_aload (pc := 57) C 7 dX9_copy_57 rfl ?_
          refine get_X9_348 (pc := 59) C (wg hG (by decide) (show (k2) < 4 from hk5)) dX9_copy_59 ?_
          refine V_icmp_eq (tgt := 68) (pc := 62) C dX9_copy_62 (by decide) (fun h_62 => ?_) (fun h_62 => ?_)
          · refine V_aload (pc := 68) C 6 dX9_copy_68 rfl ?_
            refine V_iload_n (pc := 70) C 2 dX9_copy_70 rfl rfl ?_
            refine V_iload (pc := 71) C 5 dX9_copy_71 rfl ?_
            refine call_X9_351 (pc := 73) C (c_X5_spans (d := d - 1) hG M hk4 _ _) (by omega) (wg hG (by decide) (show (k) < 4 from hk4)) (Nat.le_of_ble_eq_true rfl) dX9_copy_73 (fun x_73 M_73 h_73 => ?_)
            obtain ⟨e_73, rfl⟩ := h_73
            have e_73 := e_73.symm
            subst e_73
            refine V_if_eq (tgt := 91) (pc := 76) C dX9_copy_76 (by decide) (fun h_76 => ?_) (fun h_76 => ?_)
            · have h_76 := bJ_0.mp h_76
              refine V_bipush (v := -12) (pc := 91) C dX9_copy_91 (by decide) ?_
              refine V_iret (pc := 93) C hr hlk dX9_copy_93 ⟨_, rfl, ?_⟩
              rw [kCopy, if_pos ⟨h_4, h_11⟩, ek, ek2, if_neg (fun z => z.elim h_38 h_46), if_pos h_62, if_neg (fun z => h_76 (of_decide_eq_true z.1))]
            · have h_76 := bJ_1.mp h_76
              refine V_aload (pc := 79) C 7 dX9_copy_79 rfl ?_
              refine V_iload (pc := 81) C 4 dX9_copy_81 rfl ?_
              refine V_iload (pc := 83) C 5 dX9_copy_83 rfl ?_
              refine call_X9_351 (pc := 85) C (c_X5_spans (d := d - 1) hG M hk5 _ _) (by omega) (wg hG (by decide) (show (k2) < 4 from hk5)) (Nat.le_of_ble_eq_true rfl) dX9_copy_85 (fun x_85 M_85 h_85 => ?_)
              obtain ⟨e_85, rfl⟩ := h_85
              have e_85 := e_85.symm
              subst e_85
              refine V_if_ne (tgt := 94) (pc := 88) C dX9_copy_88 (by decide) (fun h_88 => ?_) (fun h_88 => ?_)
              · have h_88 := bJ_1.mp h_88
                refine V_aload (pc := 94) C 6 dX9_copy_94 rfl ?_
                refine get_X9_320 (pc := 96) C (wg hG (by decide) (show (k) < 4 from hk4)) dX9_copy_96 ?_
                refine V_iload_n (pc := 99) C 2 dX9_copy_99 rfl rfl ?_
                refine V_aload (pc := 100) C 7 dX9_copy_100 rfl ?_
                refine get_X9_320 (pc := 102) C (wg hG (by decide) (show (k2) < 4 from hk5)) dX9_copy_102 ?_
                refine V_iload (pc := 105) C 4 dX9_copy_105 rfl ?_
                refine V_iload (pc := 107) C 5 dX9_copy_107 rfl ?_
                obtain ⟨n0, hn0, rfl⟩ := sp_n (hs k hk4) h_76
                obtain ⟨i0, hi0, rfl⟩ := sp_j hn0 (hs k hk4) h_76
                obtain ⟨j0, hj0, rfl⟩ := sp_j hn0 (hs k2 hk5) h_88
                refine V_copy (pc := 109) C (i0) (j0) (n0) rfl rfl rfl (by omega) (by omega) (Nat.le_of_ble_eq_true rfl) (Nat.le_of_ble_eq_true rfl) (wg hG (by decide) (show (k) < 4 from hk4)) (wg hG (by decide) (show (k2) < 4 from hk5)) (fun _ => wF_10) (fun _ => wF_10) qm_X9_354 q_acn q_acs qn_java_lang_System (by omega) (Nat.le_of_ble_eq_true rfl) dX9_copy_109 ?_
                refine V_iload (pc := 112) C 5 dX9_copy_112 rfl ?_
                refine V_iret (pc := 114) C hr hlk dX9_copy_114 ⟨_, rfl, ?_⟩
                rw [kCopy, if_pos ⟨h_4, h_11⟩, ek, ek2, if_neg (fun z => z.elim h_38 h_46), if_pos h_62, if_pos ⟨decide_eq_true h_76, decide_eq_true h_88⟩, nI_clamp (by omega), nI_clamp (by omega), nI_clamp (by omega)]
              · have h_88 := bJ_0.mp h_88
                refine V_bipush (v := -12) (pc := 91) C dX9_copy_91 (by decide) ?_
                refine V_iret (pc := 93) C hr hlk dX9_copy_93 ⟨_, rfl, ?_⟩
                rw [kCopy, if_pos ⟨h_4, h_11⟩, ek, ek2, if_neg (fun z => z.elim h_38 h_46), if_pos h_62, if_neg (fun z => h_88 (of_decide_eq_true z.2))]
          · refine V_bipush (v := -13) (pc := 65) C dX9_copy_65 (by decide) ?_
            refine V_iret (pc := 67) C hr hlk dX9_copy_67 ⟨_, rfl, ?_⟩
            rw [kCopy, if_pos ⟨h_4, h_11⟩, ek, ek2, if_neg (fun z => z.elim h_38 h_46), if_neg h_62]
        · have h_46 := bJ_1.mp h_46
          refine V_bipush (v := -11) (pc := 49) C dX9_copy_49 (by decide) ?_
          refine V_iret (pc := 51) C hr hlk dX9_copy_51 ⟨_, rfl, ?_⟩
          rw [kCopy, if_pos ⟨h_4, h_11⟩, ek, ek2, if_pos (by first | exact Or.inl h_38 | exact Or.inr h_46)]
    · have h_11 := bJ_0.mp h_11
      refine V_bipush (v := -2) (pc := 14) C dX9_copy_14 (by decide) ?_
      refine V_iret (pc := 16) C hr hlk dX9_copy_16 ⟨_, rfl, ?_⟩
      rw [kCopy, if_neg (fun z => h_11 z.2)]
def m99 (x : Int32) : Int32 := if x + 1 < 99 then x + 1 else 99
def pStep (M : wS) (b : Nat) : wS := if M.1 5 b 1 = M.1 26 0 4 then mset M 27 0 b (m99 (M.1 27 0 b)) else M
def pLoop : Nat → Nat → wS → wS
  | _, 0, M => M
  | b, n + 1, M => pLoop (b + 1) n (pStep M b)
def kPass0 (M : wS) : wS := if M.1 26 0 4 + 1 < 52 then mset M 26 0 4 (M.1 26 0 4 + 1) else mset (mset (mset M 26 0 4 (M.1 26 0 4 + 1)) 26 0 4 0) 26 0 5 (m99 (M.1 26 0 5))
theorem pStep_oth (M : wS) (b : Nat) {g i : Nat} (hg : ¬ g = 27) : (pStep M b).1 g i = M.1 g i := by
  funext k
  unfold pStep
  split
  · rw [mset_at, if_neg (fun z => hg z.1)]
  · rfl
theorem lp_X9_pass {p : Program} {e : Env} {s : State} {m : MethodId} {args : Array Value} {below : List Frame} {meth : Method} {c : Code} (C : CX p s m args c cX9_pass 2 "CostsAge" D cy ad G (wA ad G) (Rm d) d 0 0) (hr : meth.sig.returnType = (some .int)) (hlk : meth.locks = false) (hG : 30 ≤ G) (hd : 1 ≤ d) {nb : Nat} (hn7 : nb ≤ 7) (Qf : Int32 → wS → Prop) : ∀ (n b : Nat) (M : wS), b + n = nb → M.1 0 0 11 = nI nb → Qf (M.1 26 0 4) (pLoop b n M) → V p l e (Rm d) s m args below meth c 2 D cy ad G (wA ad G) 0 0 (MQ below (wQ D cy ad G (rI Qf)) args s 0 0 (wA ad G)) 56 [(0, .ref (ad 0 0)), (1, .int (nI b))] [] M := by
  intro n
  induction n with
  | zero =>
    intro b M hb hnb hq
    refine V_iload_n (pc := 56) C 1 dX9_pass_56 rfl rfl ?_
    refine V_aload_n (pc := 57) C 0 dX9_pass_57 rfl rfl ?_
    refine get_X9_106 (pc := 58) C (wg hG (by decide) (by decide)) dX9_pass_58 ?_
    refine V_icmp_ge (tgt := 114) (pc := 61) C dX9_pass_61 (by decide) (fun h_61 => ?_) (fun h_61 => ?_)
    · refine V_aload_n (pc := 114) C 0 dX9_pass_114 rfl rfl ?_
      refine get_X9_64 (pc := 115) C (wg hG (by decide) (by decide)) dX9_pass_115 ?_
      refine get_X9_160 (pc := 118) C (wg hG (by decide) (by decide)) dX9_pass_118 ?_
      refine V_iret (pc := 121) C hr hlk dX9_pass_121 ⟨_, rfl, ?_⟩
      exact hq
    · rw [hnb] at h_61
      exact absurd (nI_le (by omega) (by omega)) h_61
  | succ n ih =>
    intro b M hb hnb hq
    refine V_iload_n (pc := 56) C 1 dX9_pass_56 rfl rfl ?_
    refine V_aload_n (pc := 57) C 0 dX9_pass_57 rfl rfl ?_
    refine get_X9_106 (pc := 58) C (wg hG (by decide) (by decide)) dX9_pass_58 ?_
    refine V_icmp_ge (tgt := 114) (pc := 61) C dX9_pass_61 (by decide) (fun h_61 => ?_) (fun h_61 => ?_)
    · rw [hnb] at h_61
      exact absurd h_61 (nI_ge (by omega) (by omega))
    · refine V_aload_n (pc := 64) C 0 dX9_pass_64 rfl rfl ?_
      refine get_X9_11 (pc := 65) C (wg hG (by decide) (by decide)) dX9_pass_65 ?_
      refine V_iload_n (pc := 68) C 1 dX9_pass_68 rfl rfl ?_
      refine V_aald (pc := 69) C (b) rfl (by omega) (Nat.le_of_ble_eq_true rfl) (wg hG (by decide) (by decide)) wF_1 rfl dX9_pass_69 ?_
      refine get_X9_112 (pc := 70) C (wg hG (by decide) (show (b) < 7 from (by omega))) dX9_pass_70 ?_
      refine V_aload_n (pc := 73) C 0 dX9_pass_73 rfl rfl ?_
      refine get_X9_64 (pc := 74) C (wg hG (by decide) (by decide)) dX9_pass_74 ?_
      refine get_X9_160 (pc := 77) C (wg hG (by decide) (by decide)) dX9_pass_77 ?_
      refine V_icmp_ne (tgt := 108) (pc := 80) C dX9_pass_80 (by decide) (fun h_80 => ?_) (fun h_80 => ?_)
      · refine Vs_iinc (v := nI (b + 1)) (lv' := [(0, _), (1, _)]) (pc := 108) C 1 dX9_pass_108 rfl (by decide) rfl (nI_i1 (b)) rfl ?_
        refine V_goto (tgt := 56) (pc := 111) C dX9_pass_111 (by decide) ?_
        refine ih (b + 1) _ (by omega) hnb ?_
        rw [pLoop, pStep, if_neg h_80] at hq
        exact hq
      · refine V_aload_n (pc := 83) C 0 dX9_pass_83 rfl rfl ?_
        refine get_X9_64 (pc := 84) C (wg hG (by decide) (by decide)) dX9_pass_84 ?_
        refine get_X9_118 (pc := 87) C (wg hG (by decide) (by decide)) dX9_pass_87 ?_
        refine V_iload_n (pc := 90) C 1 dX9_pass_90 rfl rfl ?_
        refine V_bipush (v := 99) (pc := 91) C dX9_pass_91 (by decide) ?_
        refine V_aload_n (pc := 93) C 0 dX9_pass_93 rfl rfl ?_
        refine get_X9_64 (pc := 94) C (wg hG (by decide) (by decide)) dX9_pass_94 ?_
        refine get_X9_118 (pc := 97) C (wg hG (by decide) (by decide)) dX9_pass_97 ?_
        refine V_iload_n (pc := 100) C 1 dX9_pass_100 rfl rfl ?_
        refine V_iald (pc := 101) C (b) rfl (by omega) (Nat.le_of_ble_eq_true rfl) (wg hG (by decide) (by decide)) wF_27 dX9_pass_101 ?_
        refine V_iconst (v := 1) (pc := 102) C dX9_pass_102 (by decide) ?_
        refine V_iadd (pc := 103) C dX9_pass_103 ?_
        refine V_mmin (pc := 104) C qm_X9_204 q_mins qn_java_lang_Math q_minc (by omega) (Nat.le_of_ble_eq_true rfl) dX9_pass_104 ?_
        refine V_iast (pc := 107) C (b) rfl (by omega) (Nat.le_of_ble_eq_true rfl) (wg hG (by decide) (by decide)) (fun _ => wF_27) dX9_pass_107 ?_
        refine Vs_iinc (v := nI (b + 1)) (lv' := [(0, _), (1, _)]) (pc := 108) C 1 dX9_pass_108 rfl (by decide) rfl (nI_i1 (b)) rfl ?_
        refine V_goto (tgt := 56) (pc := 111) C dX9_pass_111 (by decide) ?_
        refine ih (b + 1) _ (by omega) (by rw [mset_at, if_neg (by omega)]; exact hnb) ?_
        rw [pLoop, pStep, if_pos h_80] at hq
        exact hq
def kPass (M : wS) (nb : Nat) : Int32 × wS := ((kPass0 M).1 26 0 4, pLoop 0 nb (kPass0 M))
theorem c_X9_pass (hG : 30 ≤ G) (hd : 1 ≤ d) (M : wS) {nb : Nat} (hnb : M.1 0 0 11 = nI nb) (hn7 : nb ≤ 7) : Ctr l D cy ad G d yX9_pass cX9_pass 2 (some .int) [.ref (ad 0 0)] M (rI fun x M' => (x, M') = kPass M nb) := by
  refine Ctr.of (lv0 := [(0, _)]) (by decide) (Nat.le_of_ble_eq_true rfl) rfl ?_
  intro p e s m args below meth c C hr hlk _
  have C : CX p s m args c cX9_pass 2 "CostsAge" D cy ad G (wA ad G) (Rm d) d 0 0 := C
  refine V_aload_n (pc := 0) C 0 dX9_pass_0 rfl rfl ?_
  refine get_X9_64 (pc := 1) C (wg hG (by decide) (by decide)) dX9_pass_1 ?_
  refine V_dup (pc := 4) C dX9_pass_4 rfl ?_
  refine get_X9_160 (pc := 5) C (wg hG (by decide) (by decide)) dX9_pass_5 ?_
  refine V_iconst (v := 1) (pc := 8) C dX9_pass_8 (by decide) ?_
  refine V_iadd (pc := 9) C dX9_pass_9 ?_
  refine put_X9_160 (pc := 10) C (wg hG (by decide) (by decide)) dX9_pass_10 ?_
  refine V_aload_n (pc := 13) C 0 dX9_pass_13 rfl rfl ?_
  refine get_X9_64 (pc := 14) C (wg hG (by decide) (by decide)) dX9_pass_14 ?_
  refine get_X9_160 (pc := 17) C (wg hG (by decide) (by decide)) dX9_pass_17 ?_
  refine V_bipush (v := 52) (pc := 20) C dX9_pass_20 (by decide) ?_
  refine V_icmp_lt (tgt := 54) (pc := 22) C dX9_pass_22 (by decide) (fun h_22 => ?_) (fun h_22 => ?_)
  · have h9 : M.1 26 0 4 + 1 < 52 := by simpa [mset_at] using h_22
    refine V_iconst (v := 0) (pc := 54) C dX9_pass_54 (by decide) ?_
    refine Vs_istore_n (lv' := [(0, _), (1, _)]) (pc := 55) C dX9_pass_55 rfl (by decide) rfl rfl ?_
    refine lp_X9_pass C hr hlk hG hd hn7 _ nb 0 _ (by omega) ?_ ?_
    · simp [mset_at, hnb]
    · rw [kPass, kPass0, if_pos h9]
  · have h9 : ¬ M.1 26 0 4 + 1 < 52 := by simpa [mset_at] using h_22
    refine V_aload_n (pc := 25) C 0 dX9_pass_25 rfl rfl ?_
    refine get_X9_64 (pc := 26) C (wg hG (by decide) (by decide)) dX9_pass_26 ?_
    refine V_iconst (v := 0) (pc := 29) C dX9_pass_29 (by decide) ?_
    refine put_X9_160 (pc := 30) C (wg hG (by decide) (by decide)) dX9_pass_30 ?_
    refine V_aload_n (pc := 33) C 0 dX9_pass_33 rfl rfl ?_
    refine get_X9_64 (pc := 34) C (wg hG (by decide) (by decide)) dX9_pass_34 ?_
    refine V_bipush (v := 99) (pc := 37) C dX9_pass_37 (by decide) ?_
    refine V_aload_n (pc := 39) C 0 dX9_pass_39 rfl rfl ?_
    refine get_X9_64 (pc := 40) C (wg hG (by decide) (by decide)) dX9_pass_40 ?_
    refine get_X9_201 (pc := 43) C (wg hG (by decide) (by decide)) dX9_pass_43 ?_
    refine V_iconst (v := 1) (pc := 46) C dX9_pass_46 (by decide) ?_
    refine V_iadd (pc := 47) C dX9_pass_47 ?_
    refine V_mmin (pc := 48) C qm_X9_204 q_mins qn_java_lang_Math q_minc (by omega) (Nat.le_of_ble_eq_true rfl) dX9_pass_48 ?_
    refine put_X9_201 (pc := 51) C (wg hG (by decide) (by decide)) dX9_pass_51 ?_
    refine V_iconst (v := 0) (pc := 54) C dX9_pass_54 (by decide) ?_
    refine Vs_istore_n (lv' := [(0, _), (1, _)]) (pc := 55) C dX9_pass_55 rfl (by decide) rfl rfl ?_
    refine lp_X9_pass C hr hlk hG hd hn7 _ nb 0 _ (by omega) ?_ ?_
    · simp [mset_at, hnb]
    · rw [kPass, kPass0, if_neg h9]
      simp [mset_at, m99]
end S37
