theorem kPrice_alone {M M' : wS} (h : Scr M M') (t r e1 e2 k : Nat) (fee n : Int32) : kPrice (kAlone M' t) r e1 e2 k fee n = kPrice (kAlone M t) r e1 e2 k fee n := by
  unfold kAlone
  rw [h.1 6 t (by decide), h.1 29 0 (by decide)]
  generalize M.1 6 t 0 = a
  generalize M.1 6 t 1 = b
  generalize M.1 29 0 t = o
  have key : ∀ j, j < 6 → kEnv (kShow M' a b o) k fee n j = kEnv (kShow M a b o) k fee n j := by
    intro j hj
    have s1 : (kShow M' a b o).1 13 0 2 = (kShow M a b o).1 13 0 2 := by simp [kShow, mset_at]
    have s2 : (kShow M' a b o).1 14 0 1 = (kShow M a b o).1 14 0 1 := by simp [kShow, mset_at]
    have s3 : (kShow M' a b o).1 14 0 2 = (kShow M a b o).1 14 0 2 := by simp [kShow, mset_at]
    simp only [kEnv, s1, kShow_ne _ _ _ _ (g := 5) (i := k) (by decide) (by decide), kShow_ne _ _ _ _ (g := 27) (i := 0) (by decide) (by decide), kShow_ne _ _ _ _ (g := 26) (i := 0) (by decide) (by decide), h.1 5 k (by decide), h.1 27 0 (by decide), h.1 26 0 (by decide), upd]
    match j, hj with
    | 0, _ => simp
    | 1, _ => simp [s2]
    | 2, _ => simp [s3]
    | 3, _ => simp
    | 4, _ => simp
    | 5, _ => simp
  unfold kPrice
  rw [xVal_congr key, xVal_congr key, kShow_ne _ _ _ _ (g := 8) (i := r) (by decide) (by decide), kShow_ne _ _ _ _ (g := 8) (i := r) (by decide) (by decide), kShow_ne _ _ _ _ (g := 5) (i := k) (by decide) (by decide), kShow_ne _ _ _ _ (g := 5) (i := k) (by decide) (by decide), kShow_ne _ _ _ _ (g := 27) (i := 0) (by decide) (by decide), kShow_ne _ _ _ _ (g := 27) (i := 0) (by decide) (by decide), kShow_ne _ _ _ _ (g := 26) (i := 0) (by decide) (by decide), kShow_ne _ _ _ _ (g := 26) (i := 0) (by decide) (by decide), h.1 8 r (by decide), h.1 5 k (by decide), h.1 27 0 (by decide), h.1 26 0 (by decide)]
/-- whether a row of a clerk's list is such -/
def kRowOK (M : wS) (nb nt : Nat) (b t gone : Int32) : Prop := (0 ≤ b ∧ b < nI nb) ∧ (0 ≤ t ∧ t < nI nt) ∧ (gone >>> (t &&& 31)) &&& 1 = 0 ∧ ¬ hasB (M.1 26 0 3) t.toNatClampNeg
noncomputable def kRow (M : wS) (nb nt r e1 e2 : Nat) (b t gone : Int32) : Int32 := @ite _ (kRowOK M nb nt b t gone) (Classical.propDecidable _) (kPrice (kAlone M t.toNatClampNeg) r e1 e2 b.toNatClampNeg (M.1 28 0 b.toNatClampNeg) 0) (-5)
theorem kRow_scr {M M' : wS} (h : Scr M M') (nb nt r e1 e2 : Nat) (b t gone : Int32) : kRow M' nb nt r e1 e2 b t gone = kRow M nb nt r e1 e2 b t gone := by
  unfold kRow kRowOK
  rw [kPrice_alone h, h.1 28 0 (by decide), h.1 26 0 (by decide)]
noncomputable def jRun (M : wS) (nb nt r e1 e2 : Nat) (c : Nat → Int32) : Nat → Nat → Int32 → Int32 → Int32 × Int32
  | 0, _, paid, _ => (-1, paid)
  | n + 1, j, paid, gone => if kRow M nb nt r e1 e2 (c (2 * j)) (c (2 * j + 1)) gone < 0 then (nI j, paid) else jRun M nb nt r e1 e2 c n (j + 1) (paid + kRow M nb nt r e1 e2 (c (2 * j)) (c (2 * j + 1)) gone) (gone ||| (1 <<< (c (2 * j + 1) &&& 31)))
theorem ix_even {j n : Nat} (h : 2 * j + 1 < n) (hn : n ≤ 40) : ¬ nI n ≤ nI (2 * j) + 1 := by
  rw [nI_1]
  exact nI_ge (by omega) (by omega)
section S20
variable {l : Launch} {D : va_G} {cy : Nat → ClassId} {ad : Nat → Nat → Nat} {G d : Nat}
theorem c_X9_priceOfRow (hG : 30 ≤ G) (hd : 5 ≤ d) (M : wS) {nb nt r e1 e2 e3 : Nat} (hP : IP M nb nt r e1 e2 e3) (b t gone : Int32) : Ctr l D cy ad G d yX9_priceOfRow cX9_priceOfRow 4 (some .int) [.ref (ad 0 0), .int b, .int t, .int gone] M (rI fun x M' => Scr M M' ∧ x = kRow M nb nt r e1 e2 b t gone) := by
  obtain ⟨⟨hnb, hn7⟩, ⟨hnt, ht7⟩, hX, hB, hw⟩ := id hP
  refine Ctr.of (lv0 := [(0, _), (1, _), (2, _), (3, _)]) (by decide) (Nat.le_of_ble_eq_true rfl) rfl ?_
  intro p e s m args below meth c C hr hlk _
  have C : CX p s m args c cX9_priceOfRow 4 "CostsAge" D cy ad G (wA ad G) (Rm d) d 0 0 := C
  refine V_aload_n (pc := 0) C 0 dX9_priceOfRow_0 rfl rfl ?_
  refine V_iload_n (pc := 1) C 1 dX9_priceOfRow_1 rfl rfl ?_
  refine call_X9_136 (pc := 2) C (c_X9_isBuyer (d := d - 1) hG M _) (by omega) (wg hG (by decide) (by decide)) (Nat.le_of_ble_eq_true rfl) dX9_priceOfRow_2 (fun x_2 M_2 h_2 => ?_)
  obtain ⟨e_2, rfl⟩ := h_2
  have e_2 := e_2.symm
  subst e_2
  refine V_if_eq (tgt := 32) (pc := 5) C dX9_priceOfRow_5 (by decide) (fun h_5 => ?_) (fun h_5 => ?_)
  · have h_5 := bJ_0.mp h_5
    rw [hnb] at h_5
    refine V_bipush (v := -5) (pc := 32) C dX9_priceOfRow_32 (by decide) ?_
    refine V_iret (pc := 34) C hr hlk dX9_priceOfRow_34 ⟨_, rfl, ?_⟩
    exact ⟨Scr.rf, (if_neg (fun z => h_5 z.1)).symm⟩
  · have h_5 := bJ_1.mp h_5
    rw [hnb] at h_5
    obtain ⟨k, hk, rfl⟩ := ix_of h_5.1 h_5.2 (by omega)
    have ek : (nI k).toNatClampNeg = k := nI_clamp (by omega)
    refine V_aload_n (pc := 8) C 0 dX9_priceOfRow_8 rfl rfl ?_
    refine V_iload_n (pc := 9) C 2 dX9_priceOfRow_9 rfl rfl ?_
    refine call_X9_147 (pc := 10) C (c_X9_isWare (d := d - 1) hG M _) (by omega) (wg hG (by decide) (by decide)) (Nat.le_of_ble_eq_true rfl) dX9_priceOfRow_10 (fun x_10 M_10 h_10 => ?_)
    obtain ⟨e_10, rfl⟩ := h_10
    have e_10 := e_10.symm
    subst e_10
    refine V_if_eq (tgt := 32) (pc := 13) C dX9_priceOfRow_13 (by decide) (fun h_13 => ?_) (fun h_13 => ?_)
    · have h_13 := bJ_0.mp h_13
      rw [hnt] at h_13
      refine V_bipush (v := -5) (pc := 32) C dX9_priceOfRow_32 (by decide) ?_
      refine V_iret (pc := 34) C hr hlk dX9_priceOfRow_34 ⟨_, rfl, ?_⟩
      exact ⟨Scr.rf, (if_neg (fun z => h_13 z.2.1)).symm⟩
    · have h_13 := bJ_1.mp h_13
      rw [hnt] at h_13
      obtain ⟨j, hj, rfl⟩ := ix_of h_13.1 h_13.2 (by omega)
      have ej : (nI j).toNatClampNeg = j := nI_clamp (by omega)
      refine V_iload_n (pc := 16) C 3 dX9_priceOfRow_16 rfl rfl ?_
      refine V_iload_n (pc := 17) C 2 dX9_priceOfRow_17 rfl rfl ?_
      refine call_X9_209 (pc := 18) C (c_X9_has (d := d - 1) M _ _) (by omega) (Nat.le_of_ble_eq_true rfl) dX9_priceOfRow_18 (fun x_18 M_18 h_18 => ?_)
      obtain ⟨e_18, rfl⟩ := h_18
      have e_18 := e_18.symm
      subst e_18
      refine V_if_ne (tgt := 32) (pc := 21) C dX9_priceOfRow_21 (by decide) (fun h_21 => ?_) (fun h_21 => ?_)
      · have h_21 := bJ_1.mp h_21
        refine V_bipush (v := -5) (pc := 32) C dX9_priceOfRow_32 (by decide) ?_
        refine V_iret (pc := 34) C hr hlk dX9_priceOfRow_34 ⟨_, rfl, ?_⟩
        exact ⟨Scr.rf, (if_neg (fun z => h_21 z.2.2.1)).symm⟩
      · have h_21 := bJ_0.mp h_21
        refine V_aload_n (pc := 24) C 0 dX9_priceOfRow_24 rfl rfl ?_
        refine V_iload_n (pc := 25) C 2 dX9_priceOfRow_25 rfl rfl ?_
        refine call_X9_192 (pc := 26) C (c2_X9_showAlone (d := d - 1) hG (by omega) M (t := j) (by omega)) (by omega) (wg hG (by decide) (by decide)) (Nat.le_of_ble_eq_true rfl) dX9_priceOfRow_26 (fun x_26 M_26 h_26 => ?_)
        obtain ⟨rfl, h_t1, h_t0⟩ := h_26
        refine V_if_ne (tgt := 35) (pc := 29) C dX9_priceOfRow_29 (by decide) (fun h_29 => ?_) (fun h_29 => ?_)
        · have h_29 := bJ_1.mp h_29
          have e9 := h_t1 h_29
          subst e9
          have hS2 : Scr M (kAlone M j) := kAlone_scr M j
          have hP2 := hP.scr hS2
          refine V_aload_n (pc := 35) C 0 dX9_priceOfRow_35 rfl rfl ?_
          refine V_iload_n (pc := 36) C 1 dX9_priceOfRow_36 rfl rfl ?_
          refine V_aload_n (pc := 37) C 0 dX9_priceOfRow_37 rfl rfl ?_
          refine get_X9_64 (pc := 38) C (wg hG (by decide) (by decide)) dX9_priceOfRow_38 ?_
          refine get_X9_122 (pc := 41) C (wg hG (by decide) (by decide)) dX9_priceOfRow_41 ?_
          refine V_iload_n (pc := 44) C 1 dX9_priceOfRow_44 rfl rfl ?_
          refine V_iald (pc := 45) C (k) rfl (by omega) (Nat.le_of_ble_eq_true rfl) (wg hG (by decide) (by decide)) wF_28 dX9_priceOfRow_45 ?_
          refine V_iconst (v := 0) (pc := 46) C dX9_priceOfRow_46 (by decide) ?_
          refine call_X9_195 (pc := 47) C (c_X9_priceBy (d := d - 1) hG (by omega) (kAlone M j) hP2.2.2.1 hP2.2.2.2.1 hP2.2.2.2.2 (k := k) (by omega) _ 0 (by decide)) (by omega) (wg hG (by decide) (by decide)) (Nat.le_of_ble_eq_true rfl) dX9_priceOfRow_47 (fun x_47 M_47 h_47 => ?_)
          obtain ⟨⟨f_1, e_1⟩, rfl⟩ := h_47
          have hS1 : Sc (kAlone M j) M_47 := e_1 ▸ Sc.env
          refine V_iret (pc := 50) C hr hlk dX9_priceOfRow_50 ⟨_, rfl, ?_⟩
          refine ⟨hS2.tr hS1.scr, ?_⟩
          have hok : kRowOK M nb nt (nI k) (nI j) gone := ⟨h_5, h_13, Decidable.not_not.mp h_21, by rw [ej]; exact h_29⟩
          rw [kRow, if_pos hok, ek, ej, ← hS2.1 28 0 (by decide)]
          rfl
        · have h_29 := bJ_0.mp h_29
          have h_b := Classical.not_not.mp h_29
          have e9 := (h_t0 h_b).symm
          subst e9
          refine V_bipush (v := -5) (pc := 32) C dX9_priceOfRow_32 (by decide) ?_
          refine V_iret (pc := 34) C hr hlk dX9_priceOfRow_34 ⟨_, rfl, ?_⟩
          exact ⟨Scr.rf, (if_neg (fun z => z.2.2.2 (by rw [ej]; exact h_b))).symm⟩
theorem lp_X9_judge {p : Program} {e : Env} {s : State} {m : MethodId} {args : Array Value} {below : List Frame} {meth : Method} {c : Code} (C : CX p s m args c cX9_judge 9 "CostsAge" D cy ad G (wA ad G) (Rm d) d 0 0) (hr : meth.sig.returnType = (some .int)) (hlk : meth.locks = false) (hG : 30 ≤ G) (hd : 6 ≤ d) (M : wS) {nb nt r e1 e2 e3 : Nat} (hP : IP M nb nt r e1 e2 e3) {sh m2 : Nat} (hsh : sh < 4) (hm : M.1 9 sh 2 = nI (2 * m2)) (hm2 : m2 ≤ 20) (sheet what : Int32) (Qf : Int32 → wS → Prop) : ∀ (n j : Nat) (paid gone : Int32) (M1 : wS), j + n = m2 → Scr M M1 → (∀ M', Scr M M' → Qf (if what = 0 then (jRun M nb nt r e1 e2 (M.1 10 sh) n j paid gone).1 else (jRun M nb nt r e1 e2 (M.1 10 sh) n j paid gone).2) M') → V p l e (Rm d) s m args below meth c 9 D cy ad G (wA ad G) 0 0 (MQ below (wQ D cy ad G (rI Qf)) args s 0 0 (wA ad G)) 56 [(0, .ref (ad 0 0)), (1, .int sheet), (2, .int what), (3, .ref (ad 9 sh)), (4, .int paid), (5, .int gone), (6, .int (nI (2 * j)))] [] M1 := by
  intro n
  induction n with
  | zero =>
    intro j paid gone M1 hj hS hq
    refine V_iload (pc := 56) C 6 dX9_judge_56 rfl ?_
    refine V_iconst (v := 1) (pc := 58) C dX9_judge_58 (by decide) ?_
    refine V_iadd (pc := 59) C dX9_judge_59 ?_
    refine V_aload_n (pc := 60) C 3 dX9_judge_60 rfl rfl ?_
    refine get_X9_319 (pc := 61) C (wg hG (by decide) (show sh < 4 from hsh)) dX9_judge_61 ?_
    refine V_icmp_ge (tgt := 136) (pc := 64) C dX9_judge_64 (by decide) (fun h_64 => ?_) (fun h_64 => ?_)
    · refine V_iload_n (pc := 136) C 2 dX9_judge_136 rfl rfl ?_
      refine V_if_ne (tgt := 144) (pc := 137) C dX9_judge_137 (by decide) (fun h_137 => ?_) (fun h_137 => ?_)
      · refine V_iload (pc := 144) C 4 dX9_judge_144 rfl ?_
        refine V_iret (pc := 146) C hr hlk dX9_judge_146 ⟨_, rfl, ?_⟩
        simpa only [if_neg h_137, jRun] using hq M1 hS
      · refine V_iconst (v := -1) (pc := 140) C dX9_judge_140 (by decide) ?_
        refine V_goto (tgt := 146) (pc := 141) C dX9_judge_141 (by decide) ?_
        refine V_iret (pc := 146) C hr hlk dX9_judge_146 ⟨_, rfl, ?_⟩
        simpa only [if_pos h_137, jRun] using hq M1 hS
    · rw [hS.1 9 sh (by decide), hm, nI_1] at h_64
      exact absurd (nI_le (by omega) (by omega)) h_64
  | succ n ih =>
    intro j paid gone M1 hj hS hq
    have hq2 : ∀ M', Scr M M' → Qf (if what = 0 then (if kRow M nb nt r e1 e2 (M.1 10 sh (2 * j)) (M.1 10 sh (2 * j + 1)) gone < 0 then (nI j, paid) else jRun M nb nt r e1 e2 (M.1 10 sh) n (j + 1) (paid + kRow M nb nt r e1 e2 (M.1 10 sh (2 * j)) (M.1 10 sh (2 * j + 1)) gone) (gone ||| (1 <<< (M.1 10 sh (2 * j + 1) &&& 31)))).1 else (if kRow M nb nt r e1 e2 (M.1 10 sh (2 * j)) (M.1 10 sh (2 * j + 1)) gone < 0 then (nI j, paid) else jRun M nb nt r e1 e2 (M.1 10 sh) n (j + 1) (paid + kRow M nb nt r e1 e2 (M.1 10 sh (2 * j)) (M.1 10 sh (2 * j + 1)) gone) (gone ||| (1 <<< (M.1 10 sh (2 * j + 1) &&& 31)))).2) M' := hq
    refine V_iload (pc := 56) C 6 dX9_judge_56 rfl ?_
    refine V_iconst (v := 1) (pc := 58) C dX9_judge_58 (by decide) ?_
    refine V_iadd (pc := 59) C dX9_judge_59 ?_
    refine V_aload_n (pc := 60) C 3 dX9_judge_60 rfl rfl ?_
    refine get_X9_319 (pc := 61) C (wg hG (by decide) (show sh < 4 from hsh)) dX9_judge_61 ?_
    refine V_icmp_ge (tgt := 136) (pc := 64) C dX9_judge_64 (by decide) (fun h_64 => ?_) (fun h_64 => ?_)
    · rw [hS.1 9 sh (by decide), hm] at h_64
      exact absurd h_64 (ix_even (by omega) (by omega))
    · refine V_aload_n (pc := 67) C 3 dX9_judge_67 rfl rfl ?_
      refine get_X9_320 (pc := 68) C (wg hG (by decide) (show sh < 4 from hsh)) dX9_judge_68 ?_
      refine V_iload (pc := 71) C 6 dX9_judge_71 rfl ?_
      refine V_iconst (v := 1) (pc := 73) C dX9_judge_73 (by decide) ?_
      refine V_iadd (pc := 74) C dX9_judge_74 ?_
      refine V_iald (pc := 75) C (2 * j + 1) (nI_1 _) (by omega) (Nat.le_of_ble_eq_true rfl) (wg hG (by decide) (show sh < 4 from hsh)) wF_10 dX9_judge_75 ?_
      refine Vs_istore (lv' := [(0, _), (1, _), (2, _), (3, _), (4, _), (5, _), (6, _), (7, _)]) (pc := 76) C dX9_judge_76 (by decide) rfl rfl ?_
      refine V_aload_n (pc := 78) C 0 dX9_judge_78 rfl rfl ?_
      refine V_aload_n (pc := 79) C 3 dX9_judge_79 rfl rfl ?_
      refine get_X9_320 (pc := 80) C (wg hG (by decide) (show sh < 4 from hsh)) dX9_judge_80 ?_
      refine V_iload (pc := 83) C 6 dX9_judge_83 rfl ?_
      refine V_iald (pc := 85) C (2 * j) rfl (by omega) (Nat.le_of_ble_eq_true rfl) (wg hG (by decide) (show sh < 4 from hsh)) wF_10 dX9_judge_85 ?_
      refine V_iload (pc := 86) C 7 dX9_judge_86 rfl ?_
      refine V_iload (pc := 88) C 5 dX9_judge_88 rfl ?_
      rw [hS.1 10 sh (by decide)]
      refine call_X9_323 (pc := 90) C (c_X9_priceOfRow (d := d - 1) hG (by omega) M1 (hP.scr hS) _ _ _) (by omega) (wg hG (by decide) (by decide)) (Nat.le_of_ble_eq_true rfl) dX9_judge_90 (fun x_90 M_90 h_90 => ?_)
      obtain ⟨hS1, rfl⟩ := h_90
      have hS2 := hS.tr hS1
      rw [kRow_scr hS]
      generalize kRow M nb nt r e1 e2 (M.1 10 sh (2 * j)) (M.1 10 sh (2 * j + 1)) gone = v at hq2 ⊢
      refine Vs_istore (lv' := [(0, _), (1, _), (2, _), (3, _), (4, _), (5, _), (6, _), (7, _), (8, _)]) (pc := 93) C dX9_judge_93 (by decide) rfl rfl ?_
      refine V_iload (pc := 95) C 8 dX9_judge_95 rfl ?_
      refine V_if_ge (tgt := 114) (pc := 97) C dX9_judge_97 (by decide) (fun h_97 => ?_) (fun h_97 => ?_)
      · refine V_iload (pc := 114) C 4 dX9_judge_114 rfl ?_
        refine V_iload (pc := 116) C 8 dX9_judge_116 rfl ?_
        refine V_iadd (pc := 118) C dX9_judge_118 ?_
        refine Vs_istore (lv' := [(0, _), (1, _), (2, _), (3, _), (4, _), (5, _), (6, _), (7, _), (8, _)]) (pc := 119) C dX9_judge_119 (by decide) rfl rfl ?_
        refine V_iload (pc := 121) C 5 dX9_judge_121 rfl ?_
        refine V_iconst (v := 1) (pc := 123) C dX9_judge_123 (by decide) ?_
        refine V_iload (pc := 124) C 7 dX9_judge_124 rfl ?_
        refine V_ishl (pc := 126) C dX9_judge_126 ?_
        refine V_ior (pc := 127) C dX9_judge_127 ?_
        refine Vs_istore (lv' := [(0, _), (1, _), (2, _), (3, _), (4, _), (5, _), (6, _), (7, _), (8, _)]) (pc := 128) C dX9_judge_128 (by decide) rfl rfl ?_
        refine Vs_iinc (v := nI (2 * (j + 1))) (lv' := [(0, _), (1, _), (2, _), (3, _), (4, _), (5, _), (6, _), (7, _), (8, _)]) (pc := 130) C 6 dX9_judge_130 rfl (by decide) rfl (by rw [show Int32.ofInt 2 = nI 2 from by decide, nI_add]; rfl) rfl ?_
        refine V_goto (tgt := 56) (pc := 133) C dX9_judge_133 (by decide) ?_
        refine V_loc (lv' := [(0, _), (1, _), (2, _), (3, _), (4, _), (5, _), (6, _)]) [0, 1, 2, 3, 4, 5, 6] rfl ?_
        exact ih (j + 1) _ _ _ (by omega) hS2 (by simpa only [if_neg (Int32.not_lt.mpr h_97)] using hq2)
      · refine V_iload_n (pc := 100) C 2 dX9_judge_100 rfl rfl ?_
        refine V_if_ne (tgt := 111) (pc := 101) C dX9_judge_101 (by decide) (fun h_101 => ?_) (fun h_101 => ?_)
        · refine V_iload (pc := 111) C 4 dX9_judge_111 rfl ?_
          refine V_iret (pc := 113) C hr hlk dX9_judge_113 ⟨_, rfl, ?_⟩
          simpa only [if_neg h_101, if_pos (Int32.not_le.mp h_97)] using hq2 _ hS2
        · refine V_iload (pc := 104) C 6 dX9_judge_104 rfl ?_
          refine V_iconst (v := 2) (pc := 106) C dX9_judge_106 (by decide) ?_
          refine V_idiv (pc := 107) C dX9_judge_107 (by decide) ?_
          refine V_goto (tgt := 113) (pc := 108) C dX9_judge_108 (by decide) ?_
          refine V_iret (pc := 113) C hr hlk dX9_judge_113 ⟨_, rfl, ?_⟩
          have e9 : nI (2 * j) / 2 = nI j := by
            have := pk_div (a := 2 * j) (d := 2) (by omega) (by omega) (by omega)
            rw [show nI 2 = 2 from by decide] at this
            rw [this]
            congr 1
            omega
          rw [e9]
          simpa only [if_pos h_101, if_pos (Int32.not_le.mp h_97)] using hq2 _ hS2
def kJudgeOK (M : wS) (sheet what : Int32) : Prop := (0 ≤ sheet ∧ sheet < 4) ∧ (0 ≤ what ∧ what ≤ 1)
theorem c_X9_judge (hG : 30 ≤ G) (hd : 6 ≤ d) (M : wS) {nb nt r e1 e2 e3 : Nat} (hP : IP M nb nt r e1 e2 e3) (hs : ∀ k, k < 4 → ∃ n, M.1 9 k 2 = nI n ∧ n ≤ 40) (sheet what : Int32) : Ctr l D cy ad G d yX9_judge cX9_judge 9 (some .int) [.ref (ad 0 0), .int sheet, .int what] M (rI fun x M' => Scr M M' ∧ (kJudgeOK M sheet what → ∀ k n, sheet = nI k → k < 4 → M.1 9 k 2 = nI n → n ≤ 40 → x = if M.1 9 k 1 = -1 then -11 else if n % 2 = 1 then -2 else if what = 0 then (jRun M nb nt r e1 e2 (M.1 10 k) (n / 2) 0 0 0).1 else (jRun M nb nt r e1 e2 (M.1 10 k) (n / 2) 0 0 0).2) ∧ (¬ kJudgeOK M sheet what → x = -2)) := by
  refine Ctr.of (lv0 := [(0, _), (1, _), (2, _)]) (by decide) (Nat.le_of_ble_eq_true rfl) rfl ?_
  intro p e s m args below meth c C hr hlk _
  have C : CX p s m args c cX9_judge 9 "CostsAge" D cy ad G (wA ad G) (Rm d) d 0 0 := C
  refine V_iload_n (pc := 0) C 1 dX9_judge_0 rfl rfl ?_
  refine call_X9_312 (pc := 1) C (c_X9_isSheet (d := d - 1) M _) (by omega) (Nat.le_of_ble_eq_true rfl) dX9_judge_1 (fun x_1 M_1 h_1 => ?_)
  obtain ⟨e_1, rfl⟩ := h_1
  have e_1 := e_1.symm
  subst e_1
  refine V_if_eq (tgt := 15) (pc := 4) C dX9_judge_4 (by decide) (fun h_4 => ?_) (fun h_4 => ?_)
  · have h_4 := bJ_0.mp h_4
    refine V_bipush (v := -2) (pc := 15) C dX9_judge_15 (by decide) ?_
    refine V_iret (pc := 17) C hr hlk dX9_judge_17 ⟨_, rfl, ?_⟩
    exact ⟨Scr.rf, fun z => absurd z.1 h_4, fun _ => rfl⟩
  · have h_4 := bJ_1.mp h_4
    obtain ⟨k, hk4, rfl⟩ := ix_of (n := 4) h_4.1 h_4.2 (by decide)
    obtain ⟨n, hn, hn40⟩ := hs k hk4
    have kk : ∀ k', nI k = nI k' → k' < 4 → k' = k := fun k' h1 h2 => ((nI_eq (by omega) (by omega)).mp h1).symm
    have nn : ∀ n', M.1 9 k 2 = nI n' → n' ≤ 40 → n' = n := fun n' h1 h2 => by
      rw [hn] at h1
      exact ((nI_eq (by omega) (by omega)).mp h1).symm
    refine V_iload_n (pc := 7) C 2 dX9_judge_7 rfl rfl ?_
    refine V_iconst (v := 1) (pc := 8) C dX9_judge_8 (by decide) ?_
    refine call_X9_102 (pc := 9) C (c_X9_isWithin (d := d - 1) M _ _) (by omega) (Nat.le_of_ble_eq_true rfl) dX9_judge_9 (fun x_9 M_9 h_9 => ?_)
    obtain ⟨e_9, rfl⟩ := h_9
    have e_9 := e_9.symm
    subst e_9
    refine V_if_ne (tgt := 18) (pc := 12) C dX9_judge_12 (by decide) (fun h_12 => ?_) (fun h_12 => ?_)
    · have h_12 := bJ_1.mp h_12
      refine V_aload_n (pc := 18) C 0 dX9_judge_18 rfl rfl ?_
      refine get_X9_29 (pc := 19) C (wg hG (by decide) (by decide)) dX9_judge_19 ?_
      refine V_iload_n (pc := 22) C 1 dX9_judge_22 rfl rfl ?_
      refine V_aald (pc := 23) C (k) rfl hk4 (Nat.le_of_ble_eq_true rfl) (wg hG (by decide) (by decide)) wF_4 rfl dX9_judge_23 ?_
      refine Vs_astore_n (lv' := [(0, _), (1, _), (2, _), (3, _)]) (pc := 24) C dX9_judge_24 rfl (by decide) rfl rfl ?_
      refine V_aload_n (pc := 25) C 3 dX9_judge_25 rfl rfl ?_
      refine call_X9_315 (pc := 26) C (c_X5_isMissing (d := d - 1) hG M hk4) (by omega) (wg hG (by decide) (show (k) < 4 from hk4)) (Nat.le_of_ble_eq_true rfl) dX9_judge_26 (fun x_26 M_26 h_26 => ?_)
      obtain ⟨e_26, rfl⟩ := h_26
      have e_26 := e_26.symm
      subst e_26
      refine V_if_eq (tgt := 35) (pc := 29) C dX9_judge_29 (by decide) (fun h_29 => ?_) (fun h_29 => ?_)
      · have h_29 := bJ_0.mp h_29
        refine V_aload_n (pc := 35) C 3 dX9_judge_35 rfl rfl ?_
        refine get_X9_319 (pc := 36) C (wg hG (by decide) (show (k) < 4 from hk4)) dX9_judge_36 ?_
        refine V_iconst (v := 2) (pc := 39) C dX9_judge_39 (by decide) ?_
        refine V_irem (pc := 40) C dX9_judge_40 (by decide) ?_
        rw [hn, show (2 : Int32) = nI 2 from by decide, pk_rem (by omega) (by decide) (by decide)]
        refine V_if_eq (tgt := 47) (pc := 41) C dX9_judge_41 (by decide) (fun h_41 => ?_) (fun h_41 => ?_)
        · have h1 : n % 2 = 0 := by
            rw [show (0 : Int32) = nI 0 from by decide] at h_41
            exact (nI_eq (by omega) (by decide)).mp h_41
          refine V_iconst (v := 0) (pc := 47) C dX9_judge_47 (by decide) ?_
          refine Vs_istore (lv' := [(0, _), (1, _), (2, _), (3, _), (4, _)]) (pc := 48) C dX9_judge_48 (by decide) rfl rfl ?_
          refine V_iconst (v := 0) (pc := 50) C dX9_judge_50 (by decide) ?_
          refine Vs_istore (lv' := [(0, _), (1, _), (2, _), (3, _), (4, _), (5, _)]) (pc := 51) C dX9_judge_51 (by decide) rfl rfl ?_
          refine V_iconst (v := 0) (pc := 53) C dX9_judge_53 (by decide) ?_
          refine Vs_istore (lv' := [(0, _), (1, _), (2, _), (3, _), (4, _), (5, _), (6, _)]) (pc := 54) C dX9_judge_54 (by decide) rfl rfl ?_
          refine lp_X9_judge C hr hlk hG hd M hP hk4 (m2 := n / 2) (by rw [hn]; congr 1; omega) (by omega) _ _ _ (n / 2) 0 _ _ M (by omega) Scr.rf ?_
          intro M' hS
          refine ⟨hS, fun _ k' n' q1 q2 q3 q4 => ?_, fun z => absurd ⟨h_4, h_12⟩ z⟩
          obtain rfl := kk k' q1 q2
          obtain rfl := nn n' q3 q4
          rw [if_neg h_29, if_neg (show ¬ n' % 2 = 1 by omega)]
        · refine V_bipush (v := -2) (pc := 44) C dX9_judge_44 (by decide) ?_
          refine V_iret (pc := 46) C hr hlk dX9_judge_46 ⟨_, rfl, ?_⟩
          refine ⟨Scr.rf, fun _ k' n' q1 q2 q3 q4 => ?_, fun z => absurd ⟨h_4, h_12⟩ z⟩
          obtain rfl := kk k' q1 q2
          obtain rfl := nn n' q3 q4
          have h1 : n' % 2 = 1 := by
            have : ¬ n' % 2 = 0 := fun z => h_41 (by rw [z]; decide)
            omega
          rw [if_neg h_29, if_pos h1]
          decide
      · have h_29 := bJ_1.mp h_29
        refine V_bipush (v := -11) (pc := 32) C dX9_judge_32 (by decide) ?_
        refine V_iret (pc := 34) C hr hlk dX9_judge_34 ⟨_, rfl, ?_⟩
        refine ⟨Scr.rf, fun _ k' n' q1 q2 q3 q4 => ?_, fun z => absurd ⟨h_4, h_12⟩ z⟩
        obtain rfl := kk k' q1 q2
        rw [if_pos h_29]
    · have h_12 := bJ_0.mp h_12
      refine V_bipush (v := -2) (pc := 15) C dX9_judge_15 (by decide) ?_
      refine V_iret (pc := 17) C hr hlk dX9_judge_17 ⟨_, rfl, ?_⟩
      exact ⟨Scr.rf, fun z => absurd z.2 h_12, fun _ => rfl⟩
end S20
