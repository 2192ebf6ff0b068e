/-- the things of sheet k from a place on -/
def kTh (k : Nat) : Nat → Int32 → Int32 → wS → Int32 × wS
  | 0, cnt, _, M => (cnt, M)
  | n + 1, cnt, at_, M => if kSp M k at_ 2 = true then kTh k n (cnt + (if (kThing M (M.1 0 0 12).toNatClampNeg (M.1 10 k at_.toNatClampNeg) (M.1 10 k (at_.toNatClampNeg + 1))).1 < 0 then 0 else 1)) (at_ + 2) (kThing M (M.1 0 0 12).toNatClampNeg (M.1 10 k at_.toNatClampNeg) (M.1 10 k (at_.toNatClampNeg + 1))).2 else (-12, M)
theorem kThing_oth (M : wS) (nt : Nat) (z v : Int32) {g i : Nat} (hg : g ∉ [0, 6, 29]) : (kThing M nt z v).2.1 g i = M.1 g i := by
  have h : ¬ g = 0 ∧ ¬ g = 6 ∧ ¬ g = 29 := by simpa using hg
  funext k
  unfold kThing
  split
  · split
    · simp [kThingM, mset_at, h.1, h.2.1, h.2.2]
    · rfl
  · rfl
theorem kThing_nt (M : wS) {nt : Nat} (hnt : M.1 0 0 12 = nI nt) (h7 : nt ≤ 7) (z v : Int32) : ∃ n2, n2 ≤ 7 ∧ (kThing M nt z v).2.1 0 0 12 = nI n2 := by
  unfold kThing
  split
  · split
    · exact ⟨nt + 1, by omega, by rw [kThingM, mset_at, if_pos ⟨rfl, rfl, rfl⟩]; exact nI_i1 nt⟩
    · exact ⟨nt, h7, hnt⟩
  · exact ⟨nt, h7, hnt⟩
def kThings (M : wS) (sheet sort at_ n : Int32) : Int32 × wS :=
  if (0 ≤ sheet ∧ sheet < 4) ∧ (0 ≤ sort ∧ sort ≤ 2) ∧ (0 ≤ n ∧ n ≤ 7) then
    (if M.1 9 sheet.toNatClampNeg 1 = -1 then (-11, M) else if M.1 9 sheet.toNatClampNeg 1 = sort then kTh sheet.toNatClampNeg n.toNatClampNeg 0 at_ M else (-13, M))
  else (-2, M)
section S39
variable {l : Launch} {D : va_G} {cy : Nat → ClassId} {ad : Nat → Nat → Nat} {G d : Nat}
theorem lp_X9_things {p : Program} {e : Env} {s : State} {m : MethodId} {args : Array Value} {below : List Frame} {meth : Method} {c : Code} (C : CX p s m args c cX9_things 9 "CostsAge" D cy ad G (wA ad G) (Rm d) d 0 0) (hr : meth.sig.returnType = (some .int)) (hlk : meth.locks = false) (hG : 30 ≤ G) (hd : 2 ≤ d) {k q : Nat} (hk : k < 4) (hq7 : q ≤ 7) (a1 a2 a3 : Int32) (Qf : Int32 → wS → Prop) : ∀ (n t : Nat) (cnt at_ : Int32) (M : wS) (nt : Nat), t + n = q → M.1 0 0 12 = nI nt → nt ≤ 7 → M.1 9 k 2 ≤ 40 → Qf (kTh k n cnt at_ M).1 (kTh k n cnt at_ M).2 → V p l e (Rm d) s m args below meth c 9 D cy ad G (wA ad G) 0 0 (MQ below (wQ D cy ad G (rI Qf)) args s 0 0 (wA ad G)) 67 [(0, .ref (ad 0 0)), (1, .int a1), (2, .int a2), (3, .int a3), (4, .int (nI q)), (5, .ref (ad 9 k)), (6, .int cnt), (7, .int at_), (8, .int (nI t))] [] M := by
  intro n
  induction n with
  | zero =>
    intro t cnt at_ M nt ht hnt h7 hs hq
    refine V_iload (pc := 67) C 8 dX9_things_67 rfl ?_
    refine V_iload (pc := 69) C 4 dX9_things_69 rfl ?_
    refine V_icmp_ge (tgt := 132) (pc := 71) C dX9_things_71 (by decide) (fun h_71 => ?_) (fun h_71 => ?_)
    · refine V_iload (pc := 132) C 6 dX9_things_132 rfl ?_
      refine V_iret (pc := 134) C hr hlk dX9_things_134 ⟨_, rfl, ?_⟩
      exact hq
    · exact absurd (nI_le (by omega) (by omega)) h_71
  | succ n ih =>
    intro t cnt at_ M nt ht hnt h7 hs hq
    have ent : (M.1 0 0 12).toNatClampNeg = nt := by rw [hnt]; exact nI_clamp (by omega)
    refine V_iload (pc := 67) C 8 dX9_things_67 rfl ?_
    refine V_iload (pc := 69) C 4 dX9_things_69 rfl ?_
    refine V_icmp_ge (tgt := 132) (pc := 71) C dX9_things_71 (by decide) (fun h_71 => ?_) (fun h_71 => ?_)
    · exact absurd h_71 (nI_ge (by omega) (by omega))
    · refine V_aload (pc := 74) C 5 dX9_things_74 rfl ?_
      refine V_iload (pc := 76) C 7 dX9_things_76 rfl ?_
      refine V_iconst (v := 2) (pc := 78) C dX9_things_78 (by decide) ?_
      refine call_X9_351 (pc := 79) C (c_X5_spans (d := d - 1) hG M hk _ _) (by omega) (wg hG (by decide) (show k < 4 from hk)) (Nat.le_of_ble_eq_true rfl) dX9_things_79 (fun x_79 M_79 h_79 => ?_)
      obtain ⟨e_79, rfl⟩ := h_79
      have e_79 := e_79.symm
      subst e_79
      refine V_if_ne (tgt := 88) (pc := 82) C dX9_things_82 (by decide) (fun h_82 => ?_) (fun h_82 => ?_)
      · have h_82 := bJ_1.mp h_82
        have h9 : kSp M k at_ 2 = true := decide_eq_true h_82
        rw [kTh, if_pos h9, ent] at hq
        obtain ⟨x, hx, rfl⟩ := sp_j (k := 2) (by omega) hs h_82
        rw [nI_clamp (by omega)] at hq
        obtain ⟨n2, hn2, en2⟩ := kThing_nt M hnt h7 (M.1 10 k x) (M.1 10 k (x + 1))
        have es : (kThing M nt (M.1 10 k x) (M.1 10 k (x + 1))).2.1 9 k 2 ≤ 40 := by rw [kThing_oth M nt _ _ (by decide)]; exact hs
        refine V_iload (pc := 88) C 6 dX9_things_88 rfl ?_
        refine V_aload_n (pc := 90) C 0 dX9_things_90 rfl rfl ?_
        refine V_aload (pc := 91) C 5 dX9_things_91 rfl ?_
        refine get_X9_320 (pc := 93) C (wg hG (by decide) (show k < 4 from hk)) dX9_things_93 ?_
        refine V_iload (pc := 96) C 7 dX9_things_96 rfl ?_
        refine V_iald (pc := 98) C (x) rfl (by omega) (Nat.le_of_ble_eq_true rfl) (wg hG (by decide) (show k < 4 from hk)) wF_10 dX9_things_98 ?_
        refine V_aload (pc := 99) C 5 dX9_things_99 rfl ?_
        refine get_X9_320 (pc := 101) C (wg hG (by decide) (show k < 4 from hk)) dX9_things_101 ?_
        refine V_iload (pc := 104) C 7 dX9_things_104 rfl ?_
        refine V_iconst (v := 1) (pc := 106) C dX9_things_106 (by decide) ?_
        refine V_iadd (pc := 107) C dX9_things_107 ?_
        refine V_iald (pc := 108) C (x + 1) (nI_i1 x) (by omega) (Nat.le_of_ble_eq_true rfl) (wg hG (by decide) (show k < 4 from hk)) wF_10 dX9_things_108 ?_
        refine call_X9_360 (pc := 109) C (c_X9_thing (d := d - 1) hG (by omega) M hnt h7 _ _) (by omega) (wg hG (by decide) (by decide)) (Nat.le_of_ble_eq_true rfl) dX9_things_109 (fun x_109 M_109 h_109 => ?_)
        have e9 := h_109.symm
        rw [e9] at hq en2 es
        refine V_if_lt (tgt := 119) (pc := 112) C dX9_things_112 (by decide) (fun h_112 => ?_) (fun h_112 => ?_)
        · refine V_iconst (v := 0) (pc := 119) C dX9_things_119 (by decide) ?_
          refine V_iadd (pc := 120) C dX9_things_120 ?_
          refine Vs_istore (lv' := [(0, _), (1, _), (2, _), (3, _), (4, _), (5, _), (6, _), (7, _), (8, _)]) (pc := 121) C dX9_things_121 (by decide) rfl rfl ?_
          refine Vs_iinc (lv' := [(0, _), (1, _), (2, _), (3, _), (4, _), (5, _), (6, _), (7, _), (8, _)]) (pc := 123) C 7 dX9_things_123 rfl (by decide) rfl rfl rfl ?_
          refine Vs_iinc (v := nI (t + 1)) (lv' := [(0, _), (1, _), (2, _), (3, _), (4, _), (5, _), (6, _), (7, _), (8, _)]) (pc := 126) C 8 dX9_things_126 rfl (by decide) rfl (nI_i1 (t)) rfl ?_
          refine V_goto (tgt := 67) (pc := 129) C dX9_things_129 (by decide) ?_
          refine ih (t + 1) _ _ _ n2 (by omega) en2 hn2 es ?_
          rw [if_pos h_112] at hq
          exact hq
        · refine V_iconst (v := 1) (pc := 115) C dX9_things_115 (by decide) ?_
          refine V_goto (tgt := 120) (pc := 116) C dX9_things_116 (by decide) ?_
          refine V_iadd (pc := 120) C dX9_things_120 ?_
          refine Vs_istore (lv' := [(0, _), (1, _), (2, _), (3, _), (4, _), (5, _), (6, _), (7, _), (8, _)]) (pc := 121) C dX9_things_121 (by decide) rfl rfl ?_
          refine Vs_iinc (lv' := [(0, _), (1, _), (2, _), (3, _), (4, _), (5, _), (6, _), (7, _), (8, _)]) (pc := 123) C 7 dX9_things_123 rfl (by decide) rfl rfl rfl ?_
          refine Vs_iinc (v := nI (t + 1)) (lv' := [(0, _), (1, _), (2, _), (3, _), (4, _), (5, _), (6, _), (7, _), (8, _)]) (pc := 126) C 8 dX9_things_126 rfl (by decide) rfl (nI_i1 (t)) rfl ?_
          refine V_goto (tgt := 67) (pc := 129) C dX9_things_129 (by decide) ?_
          refine ih (t + 1) _ _ _ n2 (by omega) en2 hn2 es ?_
          rw [if_neg h_112] at hq
          exact hq
      · have h_82 := bJ_0.mp h_82
        have h9 : ¬ kSp M k at_ 2 = true := fun z => h_82 (of_decide_eq_true z)
        rw [kTh, if_neg h9] at hq
        refine V_bipush (v := -12) (pc := 85) C dX9_things_85 (by decide) ?_
        refine V_iret (pc := 87) C hr hlk dX9_things_87 ⟨_, rfl, ?_⟩
        exact hq
theorem c_X9_things (hG : 30 ≤ G) (hd : 2 ≤ d) (M : wS) {nt : Nat} (hnt : M.1 0 0 12 = nI nt) (h7 : nt ≤ 7) (hs : ∀ k, k < 4 → M.1 9 k 2 ≤ 40) (sheet sort at_ n : Int32) : Ctr l D cy ad G d yX9_things cX9_things 9 (some .int) [.ref (ad 0 0), .int sheet, .int sort, .int at_, .int n] M (rI fun x M' => (x, M') = kThings M sheet sort at_ n) := by
  refine Ctr.of (lv0 := [(0, _), (1, _), (2, _), (3, _), (4, _)]) (by decide) (Nat.le_of_ble_eq_true rfl) rfl ?_
  intro p e s m args below meth c C hr hlk _
  have C : CX p s m args c cX9_things 9 "CostsAge" D cy ad G (wA ad G) (Rm d) d 0 0 := C
  refine V_iload_n (pc := 0) C 1 dX9_things_0 rfl rfl ?_
  refine call_X9_312 (pc := 1) C (c_X9_isSheet (d := d - 1) M _) (by omega) (Nat.le_of_ble_eq_true rfl) dX9_things_1 (fun x_1 M_1 h_1 => ?_)
  obtain ⟨e_1, rfl⟩ := h_1
  have e_1 := e_1.symm
  subst e_1
  refine V_if_eq (tgt := 24) (pc := 4) C dX9_things_4 (by decide) (fun h_4 => ?_) (fun h_4 => ?_)
  · have h_4 := bJ_0.mp h_4
    refine V_bipush (v := -2) (pc := 24) C dX9_things_24 (by decide) ?_
    refine V_iret (pc := 26) C hr hlk dX9_things_26 ⟨_, rfl, ?_⟩
    rw [kThings, if_neg]
    rintro ⟨z1, z2, z3⟩
    first | exact h_4 z1 | exact h_11 z2 | exact h_21 z3
  · have h_4 := bJ_1.mp h_4
    refine V_iload_n (pc := 7) C 2 dX9_things_7 rfl rfl ?_
    refine call_X9_337 (pc := 8) C (c_X9_isSort (d := d - 1) M _) (by omega) (Nat.le_of_ble_eq_true rfl) dX9_things_8 (fun x_8 M_8 h_8 => ?_)
    obtain ⟨e_8, rfl⟩ := h_8
    have e_8 := e_8.symm
    subst e_8
    refine V_if_eq (tgt := 24) (pc := 11) C dX9_things_11 (by decide) (fun h_11 => ?_) (fun h_11 => ?_)
    · have h_11 := bJ_0.mp h_11
      refine V_bipush (v := -2) (pc := 24) C dX9_things_24 (by decide) ?_
      refine V_iret (pc := 26) C hr hlk dX9_things_26 ⟨_, rfl, ?_⟩
      rw [kThings, if_neg]
      rintro ⟨z1, z2, z3⟩
      first | exact h_4 z1 | exact h_11 z2 | exact h_21 z3
    · have h_11 := bJ_1.mp h_11
      refine V_iload (pc := 14) C 4 dX9_things_14 rfl ?_
      refine V_bipush (v := 7) (pc := 16) C dX9_things_16 (by decide) ?_
      refine call_X9_102 (pc := 18) C (c_X9_isWithin (d := d - 1) M _ _) (by omega) (Nat.le_of_ble_eq_true rfl) dX9_things_18 (fun x_18 M_18 h_18 => ?_)
      obtain ⟨e_18, rfl⟩ := h_18
      have e_18 := e_18.symm
      subst e_18
      refine V_if_ne (tgt := 27) (pc := 21) C dX9_things_21 (by decide) (fun h_21 => ?_) (fun h_21 => ?_)
      · have h_21 := bJ_1.mp h_21
        obtain ⟨k, hk4, rfl⟩ := ix_of (n := 4) h_4.1 h_4.2 (by decide)
        have ek : (nI k).toNatClampNeg = k := nI_clamp (by omega)
        obtain ⟨q, hq8, rfl⟩ := ix_of (x := n) (n := 8) h_21.1 (by (simp only [i32_eq, Int32.le_iff_toInt_le, Int32.lt_iff_toInt_lt, Int32.not_le, Int32.not_lt, Int32.toInt_add, Int32.toInt_sub, Int32.toInt_mul, Int32.toInt_neg, Int32.toInt_div, tdv2, tdv4, tdv10, tdv52, tdv100, nI_T, apply_ite Int32.toInt, Int.bmod, Int32.reduceToInt] at *; omega)) (by decide)
        have eq9 : (nI q).toNatClampNeg = q := nI_clamp (by omega)
        refine V_aload_n (pc := 27) C 0 dX9_things_27 rfl rfl ?_
        refine get_X9_29 (pc := 28) C (wg hG (by decide) (by decide)) dX9_things_28 ?_
        refine V_iload_n (pc := 31) C 1 dX9_things_31 rfl rfl ?_
        refine V_aald (pc := 32) C (k) rfl hk4 (Nat.le_of_ble_eq_true rfl) (wg hG (by decide) (by decide)) wF_4 rfl dX9_things_32 ?_
        refine Vs_astore (lv' := [(0, _), (1, _), (2, _), (3, _), (4, _), (5, _)]) (pc := 33) C dX9_things_33 (by decide) rfl rfl ?_
        refine V_aload (pc := 35) C 5 dX9_things_35 rfl ?_
        refine call_X9_315 (pc := 37) C (c_X5_isMissing (d := d - 1) hG M hk4) (by omega) (wg hG (by decide) (show (k) < 4 from hk4)) (Nat.le_of_ble_eq_true rfl) dX9_things_37 (fun x_37 M_37 h_37 => ?_)
        obtain ⟨e_37, rfl⟩ := h_37
        have e_37 := e_37.symm
        subst e_37
        refine V_if_eq (tgt := 46) (pc := 40) C dX9_things_40 (by decide) (fun h_40 => ?_) (fun h_40 => ?_)
        · have h_40 := bJ_0.mp h_40
          refine V_aload (pc := 46) C 5 dX9_things_46 rfl ?_
          refine get_X9_348 (pc := 48) C (wg hG (by decide) (show (k) < 4 from hk4)) dX9_things_48 ?_
          refine V_iload_n (pc := 51) C 2 dX9_things_51 rfl rfl ?_
          refine V_icmp_eq (tgt := 58) (pc := 52) C dX9_things_52 (by decide) (fun h_52 => ?_) (fun h_52 => ?_)
          · refine V_iconst (v := 0) (pc := 58) C dX9_things_58 (by decide) ?_
            refine Vs_istore (lv' := [(0, _), (1, _), (2, _), (3, _), (4, _), (5, _), (6, _)]) (pc := 59) C dX9_things_59 (by decide) rfl rfl ?_
            refine V_iload_n (pc := 61) C 3 dX9_things_61 rfl rfl ?_
            refine Vs_istore (lv' := [(0, _), (1, _), (2, _), (3, _), (4, _), (5, _), (6, _), (7, _)]) (pc := 62) C dX9_things_62 (by decide) rfl rfl ?_
            refine V_iconst (v := 0) (pc := 64) C dX9_things_64 (by decide) ?_
            refine Vs_istore (lv' := [(0, _), (1, _), (2, _), (3, _), (4, _), (5, _), (6, _), (7, _), (8, _)]) (pc := 65) C dX9_things_65 (by decide) rfl rfl ?_
            refine lp_X9_things C hr hlk hG hd hk4 (q := q) (by omega) _ _ _ _ q 0 0 at_ M nt (by omega) hnt h7 (hs k hk4) ?_
            rw [kThings, if_pos ⟨h_4, h_11, h_21⟩, ek, eq9, if_neg h_40, if_pos h_52]
          · refine V_bipush (v := -13) (pc := 55) C dX9_things_55 (by decide) ?_
            refine V_iret (pc := 57) C hr hlk dX9_things_57 ⟨_, rfl, ?_⟩
            rw [kThings, if_pos ⟨h_4, h_11, h_21⟩, ek, if_neg h_40, if_neg h_52]
        · have h_40 := bJ_1.mp h_40
          refine V_bipush (v := -11) (pc := 43) C dX9_things_43 (by decide) ?_
          refine V_iret (pc := 45) C hr hlk dX9_things_45 ⟨_, rfl, ?_⟩
          rw [kThings, if_pos ⟨h_4, h_11, h_21⟩, ek, if_pos h_40]
      · have h_21 := bJ_0.mp h_21
        refine V_bipush (v := -2) (pc := 24) C dX9_things_24 (by decide) ?_
        refine V_iret (pc := 26) C hr hlk dX9_things_26 ⟨_, rfl, ?_⟩
        rw [kThings, if_neg]
        rintro ⟨z1, z2, z3⟩
        first | exact h_4 z1 | exact h_11 z2 | exact h_21 z3
end S39
