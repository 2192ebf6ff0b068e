def kMask (nt : Nat) : Int32 := 1 <<< (nI nt &&& 31) - 1
def kBec (M : wS) (i j nb nt : Nat) : wS := mset (mset (mset (mset (mset (mset (mrow (mrow (mrow M 27 i (va_cpy (M.1 27 j) (M.1 27 i) 0 0 nb)) 28 i (va_cpy (M.1 28 j) (M.1 28 i) 0 0 nb)) 29 i (va_cpy (M.1 29 j) (M.1 29 i) 0 0 nt)) 26 i 3 (M.1 26 i 3 &&& (kMask nt ^^^ -1) ||| M.1 26 j 3 &&& kMask nt)) 26 i 4 (M.1 26 j 4)) 26 i 5 (M.1 26 j 5)) 26 i 6 (M.1 26 j 6)) 26 i 7 (M.1 26 j 7)) 26 i 8 (M.1 26 j 8)
section S36
variable {l : Launch} {D : va_G} {cy : Nat → ClassId} {ad : Nat → Nat → Nat} {G d : Nat}
theorem c_X6_become (hG : 30 ≤ G) (hd : 1 ≤ d) (M : wS) {i j nb nt : Nat} (hi : i < 2) (hj : j < 2) (hn7 : nb ≤ 7) (ht7 : nt ≤ 7) : Ctr l D cy ad G d yX6_become cX6_become 5 none [.ref (ad 26 i), .ref (ad 26 j), .int (nI nb), .int (nI nt)] M (rV fun M' => M' = kBec M i j nb nt) := by
  refine Ctr.of (lv0 := [(0, _), (1, _), (2, _), (3, _)]) (by decide) (Nat.le_of_ble_eq_true rfl) rfl ?_
  intro p e s m args below meth c C hr hlk _
  have C : CX p s m args c cX6_become 5 "CostsAge$Standing" D cy ad G (wA ad G) (Rm d) d 0 0 := C
  refine V_aload_n (pc := 0) C 1 dX6_become_0 rfl rfl ?_
  refine get_X6_9 (pc := 1) C (wg hG (by decide) (show j < 2 from hj)) dX6_become_1 ?_
  refine V_iconst (v := 0) (pc := 4) C dX6_become_4 (by decide) ?_
  refine V_aload_n (pc := 5) C 0 dX6_become_5 rfl rfl ?_
  refine get_X6_9 (pc := 6) C (wg hG (by decide) (show i < 2 from hi)) dX6_become_6 ?_
  refine V_iconst (v := 0) (pc := 9) C dX6_become_9 (by decide) ?_
  refine V_iload_n (pc := 10) C 2 dX6_become_10 rfl rfl ?_
  refine V_copy (pc := 11) C (0) (0) (nb) rfl rfl rfl (by omega) (by omega) (Nat.le_of_ble_eq_true rfl) (Nat.le_of_ble_eq_true rfl) (wg hG (by decide) (show j < 2 from hj)) (wg hG (by decide) (show i < 2 from hi)) (fun _ => wF_27) (fun _ => wF_27) qm_X6_21 q_acn q_acs qn_java_lang_System (by omega) (Nat.le_of_ble_eq_true rfl) dX6_become_11 ?_
  refine V_aload_n (pc := 14) C 1 dX6_become_14 rfl rfl ?_
  refine get_X6_15 (pc := 15) C (wg hG (by decide) (show j < 2 from hj)) dX6_become_15 ?_
  refine V_iconst (v := 0) (pc := 18) C dX6_become_18 (by decide) ?_
  refine V_aload_n (pc := 19) C 0 dX6_become_19 rfl rfl ?_
  refine get_X6_15 (pc := 20) C (wg hG (by decide) (show i < 2 from hi)) dX6_become_20 ?_
  refine V_iconst (v := 0) (pc := 23) C dX6_become_23 (by decide) ?_
  refine V_iload_n (pc := 24) C 2 dX6_become_24 rfl rfl ?_
  refine V_copy (pc := 25) C (0) (0) (nb) rfl rfl rfl (by omega) (by omega) (Nat.le_of_ble_eq_true rfl) (Nat.le_of_ble_eq_true rfl) (wg hG (by decide) (show j < 2 from hj)) (wg hG (by decide) (show i < 2 from hi)) (fun _ => wF_28) (fun _ => wF_28) qm_X6_21 q_acn q_acs qn_java_lang_System (by omega) (Nat.le_of_ble_eq_true rfl) dX6_become_25 ?_
  refine V_aload_n (pc := 28) C 1 dX6_become_28 rfl rfl ?_
  refine get_X6_18 (pc := 29) C (wg hG (by decide) (show j < 2 from hj)) dX6_become_29 ?_
  refine V_iconst (v := 0) (pc := 32) C dX6_become_32 (by decide) ?_
  refine V_aload_n (pc := 33) C 0 dX6_become_33 rfl rfl ?_
  refine get_X6_18 (pc := 34) C (wg hG (by decide) (show i < 2 from hi)) dX6_become_34 ?_
  refine V_iconst (v := 0) (pc := 37) C dX6_become_37 (by decide) ?_
  refine V_iload_n (pc := 38) C 3 dX6_become_38 rfl rfl ?_
  refine V_copy (pc := 39) C (0) (0) (nt) rfl rfl rfl (by omega) (by omega) (Nat.le_of_ble_eq_true rfl) (Nat.le_of_ble_eq_true rfl) (wg hG (by decide) (show j < 2 from hj)) (wg hG (by decide) (show i < 2 from hi)) (fun _ => wF_29) (fun _ => wF_29) qm_X6_21 q_acn q_acs qn_java_lang_System (by omega) (Nat.le_of_ble_eq_true rfl) dX6_become_39 ?_
  refine V_iconst (v := 1) (pc := 42) C dX6_become_42 (by decide) ?_
  refine V_iload_n (pc := 43) C 3 dX6_become_43 rfl rfl ?_
  refine V_ishl (pc := 44) C dX6_become_44 ?_
  refine V_iconst (v := 1) (pc := 45) C dX6_become_45 (by decide) ?_
  refine V_isub (pc := 46) C dX6_become_46 ?_
  refine Vs_istore (lv' := [(0, _), (1, _), (2, _), (3, _), (4, _)]) (pc := 47) C dX6_become_47 (by decide) rfl rfl ?_
  refine V_aload_n (pc := 49) C 0 dX6_become_49 rfl rfl ?_
  refine V_aload_n (pc := 50) C 0 dX6_become_50 rfl rfl ?_
  refine get_X6_27 (pc := 51) C (wg hG (by decide) (show i < 2 from hi)) dX6_become_51 ?_
  refine V_iload (pc := 54) C 4 dX6_become_54 rfl ?_
  refine V_iconst (v := -1) (pc := 56) C dX6_become_56 (by decide) ?_
  refine V_ixor (pc := 57) C dX6_become_57 ?_
  refine V_iand (pc := 58) C dX6_become_58 ?_
  refine V_aload_n (pc := 59) C 1 dX6_become_59 rfl rfl ?_
  refine get_X6_27 (pc := 60) C (wg hG (by decide) (show j < 2 from hj)) dX6_become_60 ?_
  refine V_iload (pc := 63) C 4 dX6_become_63 rfl ?_
  refine V_iand (pc := 65) C dX6_become_65 ?_
  refine V_ior (pc := 66) C dX6_become_66 ?_
  refine put_X6_27 (pc := 67) C (wg hG (by decide) (show i < 2 from hi)) dX6_become_67 ?_
  refine V_aload_n (pc := 70) C 0 dX6_become_70 rfl rfl ?_
  refine V_aload_n (pc := 71) C 1 dX6_become_71 rfl rfl ?_
  refine get_X6_31 (pc := 72) C (wg hG (by decide) (show j < 2 from hj)) dX6_become_72 ?_
  refine put_X6_31 (pc := 75) C (wg hG (by decide) (show i < 2 from hi)) dX6_become_75 ?_
  refine V_aload_n (pc := 78) C 0 dX6_become_78 rfl rfl ?_
  refine V_aload_n (pc := 79) C 1 dX6_become_79 rfl rfl ?_
  refine get_X6_34 (pc := 80) C (wg hG (by decide) (show j < 2 from hj)) dX6_become_80 ?_
  refine put_X6_34 (pc := 83) C (wg hG (by decide) (show i < 2 from hi)) dX6_become_83 ?_
  refine V_aload_n (pc := 86) C 0 dX6_become_86 rfl rfl ?_
  refine V_aload_n (pc := 87) C 1 dX6_become_87 rfl rfl ?_
  refine get_X6_37 (pc := 88) C (wg hG (by decide) (show j < 2 from hj)) dX6_become_88 ?_
  refine put_X6_37 (pc := 91) C (wg hG (by decide) (show i < 2 from hi)) dX6_become_91 ?_
  refine V_aload_n (pc := 94) C 0 dX6_become_94 rfl rfl ?_
  refine V_aload_n (pc := 95) C 1 dX6_become_95 rfl rfl ?_
  refine get_X6_40 (pc := 96) C (wg hG (by decide) (show j < 2 from hj)) dX6_become_96 ?_
  refine put_X6_40 (pc := 99) C (wg hG (by decide) (show i < 2 from hi)) dX6_become_99 ?_
  refine V_aload_n (pc := 102) C 0 dX6_become_102 rfl rfl ?_
  refine V_aload_n (pc := 103) C 1 dX6_become_103 rfl rfl ?_
  refine get_X6_43 (pc := 104) C (wg hG (by decide) (show j < 2 from hj)) dX6_become_104 ?_
  refine put_X6_43 (pc := 107) C (wg hG (by decide) (show i < 2 from hi)) dX6_become_107 ?_
  refine V_vret (pc := 110) C hr hlk dX6_become_110 ⟨rfl, ?_⟩
  simp [kBec, kMask, mset_at, mrow_at, mrow_ne]
theorem kBec_oth (M : wS) (i j nb nt : Nat) {g a : Nat} (hg : g ∉ [26, 27, 28, 29]) : (kBec M i j nb nt).1 g a = M.1 g a := by
  funext k
  have h : ¬ g = 26 ∧ ¬ g = 27 ∧ ¬ g = 28 ∧ ¬ g = 29 := by simpa using hg
  simp [kBec, mset_at, mrow_at, h.1, h.2.1, h.2.2.1, h.2.2.2]
theorem kBec_now (M : wS) (i j nb nt : Nat) {a : Nat} (ha : ¬ a = i) : (kBec M i j nb nt).1 26 a = M.1 26 a := by
  funext k
  simp [kBec, mset_at, mrow_at, ha]
def kImage (M : wS) (nb nt : Nat) : wS := mset (mset (mset (kBec M 1 0 nb nt) 26 1 9 (nI nb)) 26 1 10 (nI nt)) 0 0 10 1
theorem c_X9_image (hG : 30 ≤ G) (hd : 2 ≤ d) (M : wS) {nb nt : Nat} (hnb : M.1 0 0 11 = nI nb) (hn7 : nb ≤ 7) (hnt : M.1 0 0 12 = nI nt) (ht7 : nt ≤ 7) : Ctr l D cy ad G d yX9_image cX9_image 1 (some .int) [.ref (ad 0 0)] M (rI fun x M' => M' = kImage M nb nt ∧ x = M.1 26 0 4) := by
  refine Ctr.of (lv0 := [(0, _)]) (by decide) (Nat.le_of_ble_eq_true rfl) rfl ?_
  intro p e s m args below meth c C hr hlk _
  have C : CX p s m args c cX9_image 1 "CostsAge" D cy ad G (wA ad G) (Rm d) d 0 0 := C
  refine V_aload_n (pc := 0) C 0 dX9_image_0 rfl rfl ?_
  refine get_X9_68 (pc := 1) C (wg hG (by decide) (by decide)) dX9_image_1 ?_
  refine V_aload_n (pc := 4) C 0 dX9_image_4 rfl rfl ?_
  refine get_X9_64 (pc := 5) C (wg hG (by decide) (by decide)) dX9_image_5 ?_
  refine V_aload_n (pc := 8) C 0 dX9_image_8 rfl rfl ?_
  refine get_X9_106 (pc := 9) C (wg hG (by decide) (by decide)) dX9_image_9 ?_
  refine V_aload_n (pc := 12) C 0 dX9_image_12 rfl rfl ?_
  refine get_X9_124 (pc := 13) C (wg hG (by decide) (by decide)) dX9_image_13 ?_
  rw [hnb, hnt]
  refine call_X9_327 (pc := 16) C (c_X6_become (d := d - 1) hG (by omega) M (i := 1) (j := 0) (by omega) (by omega) hn7 ht7) (by omega) (wg hG (by decide) (by decide)) (Nat.le_of_ble_eq_true rfl) dX9_image_16 (fun M_16 h_16 => ?_)
  have e_16 := h_16.symm
  subst e_16
  refine V_aload_n (pc := 19) C 0 dX9_image_19 rfl rfl ?_
  refine get_X9_68 (pc := 20) C (wg hG (by decide) (by decide)) dX9_image_20 ?_
  refine V_aload_n (pc := 23) C 0 dX9_image_23 rfl rfl ?_
  refine get_X9_106 (pc := 24) C (wg hG (by decide) (by decide)) dX9_image_24 ?_
  refine put_X9_331 (pc := 27) C (wg hG (by decide) (by decide)) dX9_image_27 ?_
  refine V_aload_n (pc := 30) C 0 dX9_image_30 rfl rfl ?_
  refine get_X9_68 (pc := 31) C (wg hG (by decide) (by decide)) dX9_image_31 ?_
  refine V_aload_n (pc := 34) C 0 dX9_image_34 rfl rfl ?_
  refine get_X9_124 (pc := 35) C (wg hG (by decide) (by decide)) dX9_image_35 ?_
  refine put_X9_332 (pc := 38) C (wg hG (by decide) (by decide)) dX9_image_38 ?_
  refine V_aload_n (pc := 41) C 0 dX9_image_41 rfl rfl ?_
  refine V_iconst (v := 1) (pc := 42) C dX9_image_42 (by decide) ?_
  refine put_X9_333 (pc := 43) C rfl rfl (wg hG (by decide) (by decide)) dX9_image_43 ?_
  refine V_aload_n (pc := 46) C 0 dX9_image_46 rfl rfl ?_
  refine get_X9_64 (pc := 47) C (wg hG (by decide) (by decide)) dX9_image_47 ?_
  refine get_X9_160 (pc := 50) C (wg hG (by decide) (by decide)) dX9_image_50 ?_
  refine V_iret (pc := 53) C hr hlk dX9_image_53 ⟨_, rfl, ?_⟩
  refine ⟨?_, ?_⟩
  · simp [kImage, mset_at, kBec_oth, hnb, hnt]
  · simp [mset_at, kBec_now]
def kBack (M : wS) (nb nt : Nat) : Int32 × wS := if M.1 0 0 10 = 0 then (-3, M) else (M.1 26 1 4, kBec M 0 1 nb nt)
theorem c_X9_back (hG : 30 ≤ G) (hd : 2 ≤ d) (M : wS) {nb nt : Nat} (hnb : M.1 26 1 9 = nI nb) (hn7 : nb ≤ 7) (hnt : M.1 26 1 10 = nI nt) (ht7 : nt ≤ 7) : Ctr l D cy ad G d yX9_back cX9_back 1 (some .int) [.ref (ad 0 0)] M (rI fun x M' => (x, M') = kBack M nb nt) := by
  refine Ctr.of (lv0 := [(0, _)]) (by decide) (Nat.le_of_ble_eq_true rfl) rfl ?_
  intro p e s m args below meth c C hr hlk _
  have C : CX p s m args c cX9_back 1 "CostsAge" D cy ad G (wA ad G) (Rm d) d 0 0 := C
  refine V_aload_n (pc := 0) C 0 dX9_back_0 rfl rfl ?_
  refine get_X9_333 (pc := 1) C (wg hG (by decide) (by decide)) dX9_back_1 ?_
  refine V_if_ne (tgt := 10) (pc := 4) C dX9_back_4 (by decide) (fun h_4 => ?_) (fun h_4 => ?_)
  · refine V_aload_n (pc := 10) C 0 dX9_back_10 rfl rfl ?_
    refine get_X9_64 (pc := 11) C (wg hG (by decide) (by decide)) dX9_back_11 ?_
    refine V_aload_n (pc := 14) C 0 dX9_back_14 rfl rfl ?_
    refine get_X9_68 (pc := 15) C (wg hG (by decide) (by decide)) dX9_back_15 ?_
    refine V_aload_n (pc := 18) C 0 dX9_back_18 rfl rfl ?_
    refine get_X9_68 (pc := 19) C (wg hG (by decide) (by decide)) dX9_back_19 ?_
    refine get_X9_331 (pc := 22) C (wg hG (by decide) (by decide)) dX9_back_22 ?_
    refine V_aload_n (pc := 25) C 0 dX9_back_25 rfl rfl ?_
    refine get_X9_68 (pc := 26) C (wg hG (by decide) (by decide)) dX9_back_26 ?_
    refine get_X9_332 (pc := 29) C (wg hG (by decide) (by decide)) dX9_back_29 ?_
    rw [hnb, hnt]
    refine call_X9_327 (pc := 32) C (c_X6_become (d := d - 1) hG (by omega) M (i := 0) (j := 1) (by omega) (by omega) hn7 ht7) (by omega) (wg hG (by decide) (by decide)) (Nat.le_of_ble_eq_true rfl) dX9_back_32 (fun M_32 h_32 => ?_)
    have e_32 := h_32.symm
    subst e_32
    refine V_aload_n (pc := 35) C 0 dX9_back_35 rfl rfl ?_
    refine get_X9_64 (pc := 36) C (wg hG (by decide) (by decide)) dX9_back_36 ?_
    refine get_X9_160 (pc := 39) C (wg hG (by decide) (by decide)) dX9_back_39 ?_
    refine V_iret (pc := 42) C hr hlk dX9_back_42 ⟨_, rfl, ?_⟩
    rw [kBack, if_neg h_4]
    refine Prod.ext ?_ rfl
    simp [kBec, mset_at]
  · refine V_bipush (v := -3) (pc := 7) C dX9_back_7 (by decide) ?_
    refine V_iret (pc := 9) C hr hlk dX9_back_9 ⟨_, rfl, ?_⟩
    rw [kBack, if_pos h_4]
end S36
