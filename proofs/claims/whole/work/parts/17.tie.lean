/-- of things tied, so far: sizes, values, how many, whom they are all own to -/
def tStep (M : wS) (v : Int32) (t : Nat) (q : Int32 × Int32 × Int32 × Int32) : Int32 × Int32 × Int32 × Int32 :=
  if (v >>> (nI t &&& 31)) &&& 1 = 0 then q else (q.1 + M.1 6 t 0, q.2.1 + M.1 6 t 1, q.2.2.1 + 1, if q.2.2.1 = 0 ∨ q.2.2.2 = M.1 29 0 t then M.1 29 0 t else -1)
def tRun (M : wS) (v : Int32) : Nat → Nat → (Int32 × Int32 × Int32 × Int32) → (Int32 × Int32 × Int32 × Int32)
  | _, 0, q => q
  | t, n + 1, q => tRun M v (t + 1) n (tStep M v t q)
def kTieQ (M : wS) (nt : Nat) (v : Int32) : Int32 × Int32 × Int32 × Int32 := tRun M v 0 nt (0, 0, 0, -1)
def kTieM (M : wS) (nt : Nat) (v : Int32) : wS := kShow M (kTieQ M nt v).1 (kTieQ M nt v).2.1 (kTieQ M nt v).2.2.2
/-- whether a set may be tied -/
def kTied (M : wS) (nt : Nat) (v : Int32) : Prop := ¬ v = 0 ∧ v &&& (kUnb M ^^^ -1) = 0 ∧ ((kTieQ M nt v).2.2.1 = 1 ∨ (kTieQ M nt v).1 ≤ M.1 26 0 7)
section S17
variable {l : Launch} {D : va_G} {cy : Nat → ClassId} {ad : Nat → Nat → Nat} {G d : Nat}
theorem lp_X9_tie {p : Program} {e : Env} {s : State} {m : MethodId} {args : Array Value} {below : List Frame} {meth : Method} {c : Code} (C : CX p s m args c cX9_tie 7 "CostsAge" D cy ad G (wA ad G) (Rm d) d 0 0) (hr : meth.sig.returnType = (some .boolean)) (hlk : meth.locks = false) (hG : 30 ≤ G) (hd : 1 ≤ d) (M : wS) {nt : Nat} (hnt : M.1 0 0 12 = nI nt) (ht7 : nt ≤ 7) (v : Int32) (Qf : Int32 → wS → Prop) : ∀ (n t : Nat) (q : Int32 × Int32 × Int32 × Int32), t + n = nt → (∀ q', q' = tRun M v t n q → Qf (if q'.2.2.1 = 1 ∨ q'.1 ≤ M.1 26 0 7 then 1 else 0) (kShow M q'.1 q'.2.1 q'.2.2.2)) → V p l e (Rm d) s m args below meth c 7 D cy ad G (wA ad G) 0 0 (MQ below (wQ D cy ad G (rI Qf)) args s 0 0 (wA ad G)) 30 [(0, .ref (ad 0 0)), (1, .int v), (2, .int q.1), (3, .int q.2.1), (4, .int q.2.2.1), (5, .int q.2.2.2), (6, .int (nI t))] [] M := by
  intro n
  induction n with
  | zero =>
    intro t q ht hq
    refine V_iload (pc := 30) C 6 dX9_tie_30 rfl ?_
    refine V_aload_n (pc := 32) C 0 dX9_tie_32 rfl rfl ?_
    refine get_X9_124 (pc := 33) C (wg hG (by decide) (by decide)) dX9_tie_33 ?_
    refine V_icmp_ge (tgt := 119) (pc := 36) C dX9_tie_36 (by decide) (fun h_36 => ?_) (fun h_36 => ?_)
    · refine V_aload_n (pc := 119) C 0 dX9_tie_119 rfl rfl ?_
      refine get_X9_43 (pc := 120) C (wg hG (by decide) (by decide)) dX9_tie_120 ?_
      refine V_iload_n (pc := 123) C 2 dX9_tie_123 rfl rfl ?_
      refine V_iload_n (pc := 124) C 3 dX9_tie_124 rfl rfl ?_
      refine V_iload (pc := 125) C 5 dX9_tie_125 rfl ?_
      refine call_X9_212 (pc := 127) C (c_X4_show (d := d - 1) hG M _ _ _) (by omega) (wg hG (by decide) (by decide)) (Nat.le_of_ble_eq_true rfl) dX9_tie_127 (fun M_127 h_127 => ?_)
      have e_127 := h_127.symm
      subst e_127
      refine V_iload (pc := 130) C 4 dX9_tie_130 rfl ?_
      refine V_iconst (v := 1) (pc := 132) C dX9_tie_132 (by decide) ?_
      refine V_icmp_eq (tgt := 147) (pc := 133) C dX9_tie_133 (by decide) (fun h_133 => ?_) (fun h_133 => ?_)
      · refine V_iconst (v := 1) (pc := 147) C dX9_tie_147 (by decide) ?_
        refine V_goto (tgt := 152) (pc := 148) C dX9_tie_148 (by decide) ?_
        refine V_zret (pc := 152) C hr hlk rfl dX9_tie_152 ⟨_, rfl, ?_⟩
        simpa only [kShow, if_pos (Or.inl h_133 : q.2.2.1 = 1 ∨ q.1 ≤ M.1 26 0 7)] using hq q rfl
      · refine V_iload_n (pc := 136) C 2 dX9_tie_136 rfl rfl ?_
        refine V_aload_n (pc := 137) C 0 dX9_tie_137 rfl rfl ?_
        refine get_X9_64 (pc := 138) C (wg hG (by decide) (by decide)) dX9_tie_138 ?_
        refine get_X9_75 (pc := 141) C (wg hG (by decide) (by decide)) dX9_tie_141 ?_
        refine V_icmp_gt (tgt := 151) (pc := 144) C dX9_tie_144 (by decide) (fun h_144 => ?_) (fun h_144 => ?_)
        · refine V_iconst (v := 0) (pc := 151) C dX9_tie_151 (by decide) ?_
          refine V_zret (pc := 152) C hr hlk rfl dX9_tie_152 ⟨_, rfl, ?_⟩
          have h9 : ¬ q.1 ≤ M.1 26 0 7 := by
            rw [show (mset (mset (mset M 14 0 1 q.1) 14 0 2 q.2.1) 13 0 2 q.2.2.2).1 26 0 7 = M.1 26 0 7 from by simp [mset_at]] at h_144
            exact Int32.not_le.mpr h_144
          have h8 : ¬ (q.2.2.1 = 1 ∨ q.1 ≤ M.1 26 0 7) := fun z => z.elim h_133 h9
          simpa only [kShow, if_neg h8] using hq q rfl
        · refine V_iconst (v := 1) (pc := 147) C dX9_tie_147 (by decide) ?_
          refine V_goto (tgt := 152) (pc := 148) C dX9_tie_148 (by decide) ?_
          refine V_zret (pc := 152) C hr hlk rfl dX9_tie_152 ⟨_, rfl, ?_⟩
          have h9 : q.1 ≤ M.1 26 0 7 := by
            rw [show (mset (mset (mset M 14 0 1 q.1) 14 0 2 q.2.1) 13 0 2 q.2.2.2).1 26 0 7 = M.1 26 0 7 from by simp [mset_at]] at h_144
            exact Int32.not_lt.mp h_144
          simpa only [kShow, if_pos (Or.inr h9 : q.2.2.1 = 1 ∨ q.1 ≤ M.1 26 0 7)] using hq q rfl
    · rw [hnt] at h_36
      exact absurd (nI_le (by omega) (by omega)) h_36
  | succ n ih =>
    intro t q ht hq
    have hq2 : ∀ q', q' = tRun M v (t + 1) n (tStep M v t q) → Qf (if q'.2.2.1 = 1 ∨ q'.1 ≤ M.1 26 0 7 then 1 else 0) (kShow M q'.1 q'.2.1 q'.2.2.2) := hq
    refine V_iload (pc := 30) C 6 dX9_tie_30 rfl ?_
    refine V_aload_n (pc := 32) C 0 dX9_tie_32 rfl rfl ?_
    refine get_X9_124 (pc := 33) C (wg hG (by decide) (by decide)) dX9_tie_33 ?_
    refine V_icmp_ge (tgt := 119) (pc := 36) C dX9_tie_36 (by decide) (fun h_36 => ?_) (fun h_36 => ?_)
    · rw [hnt] at h_36
      exact absurd h_36 (nI_ge (by omega) (by omega))
    · refine V_iload_n (pc := 39) C 1 dX9_tie_39 rfl rfl ?_
      refine V_iload (pc := 40) C 6 dX9_tie_40 rfl ?_
      refine call_X9_209 (pc := 42) C (c_X9_has (d := d - 1) M _ _) (by omega) (Nat.le_of_ble_eq_true rfl) dX9_tie_42 (fun x_42 M_42 h_42 => ?_)
      obtain ⟨e_42, rfl⟩ := h_42
      have e_42 := e_42.symm
      subst e_42
      refine V_if_eq (tgt := 113) (pc := 45) C dX9_tie_45 (by decide) (fun h_45 => ?_) (fun h_45 => ?_)
      · have h_45 := bJ_0.mp h_45
        refine Vs_iinc (v := nI (t + 1)) (lv' := [(0, _), (1, _), (2, _), (3, _), (4, _), (5, _), (6, _)]) (pc := 113) C 6 dX9_tie_113 rfl (by decide) rfl (nI_i1 (t)) rfl ?_
        refine V_goto (tgt := 30) (pc := 116) C dX9_tie_116 (by decide) ?_
        exact ih (t + 1) q (by omega) (by simpa only [tStep, if_pos (Decidable.not_not.mp h_45)] using hq2)
      · have h_45 := bJ_1.mp h_45
        refine V_iload_n (pc := 48) C 2 dX9_tie_48 rfl rfl ?_
        refine V_aload_n (pc := 49) C 0 dX9_tie_49 rfl rfl ?_
        refine get_X9_17 (pc := 50) C (wg hG (by decide) (by decide)) dX9_tie_50 ?_
        refine V_iload (pc := 53) C 6 dX9_tie_53 rfl ?_
        refine V_aald (pc := 55) C (t) rfl (by omega) (Nat.le_of_ble_eq_true rfl) (wg hG (by decide) (by decide)) wF_2 rfl dX9_tie_55 ?_
        refine get_X9_127 (pc := 56) C (wg hG (by decide) (show (t) < 7 from (by omega))) dX9_tie_56 ?_
        refine V_iadd (pc := 59) C dX9_tie_59 ?_
        refine Vs_istore_n (lv' := [(0, _), (1, _), (2, _), (3, _), (4, _), (5, _), (6, _)]) (pc := 60) C dX9_tie_60 rfl (by decide) rfl rfl ?_
        refine V_iload_n (pc := 61) C 3 dX9_tie_61 rfl rfl ?_
        refine V_aload_n (pc := 62) C 0 dX9_tie_62 rfl rfl ?_
        refine get_X9_17 (pc := 63) C (wg hG (by decide) (by decide)) dX9_tie_63 ?_
        refine V_iload (pc := 66) C 6 dX9_tie_66 rfl ?_
        refine V_aald (pc := 68) C (t) rfl (by omega) (Nat.le_of_ble_eq_true rfl) (wg hG (by decide) (by decide)) wF_2 rfl dX9_tie_68 ?_
        refine get_X9_130 (pc := 69) C (wg hG (by decide) (show (t) < 7 from (by omega))) dX9_tie_69 ?_
        refine V_iadd (pc := 72) C dX9_tie_72 ?_
        refine Vs_istore_n (lv' := [(0, _), (1, _), (2, _), (3, _), (4, _), (5, _), (6, _)]) (pc := 73) C dX9_tie_73 rfl (by decide) rfl rfl ?_
        refine V_iload (pc := 74) C 4 dX9_tie_74 rfl ?_
        refine V_if_eq (tgt := 94) (pc := 76) C dX9_tie_76 (by decide) (fun h_76 => ?_) (fun h_76 => ?_)
        · refine V_aload_n (pc := 94) C 0 dX9_tie_94 rfl rfl ?_
          refine get_X9_64 (pc := 95) C (wg hG (by decide) (by decide)) dX9_tie_95 ?_
          refine get_X9_133 (pc := 98) C (wg hG (by decide) (by decide)) dX9_tie_98 ?_
          refine V_iload (pc := 101) C 6 dX9_tie_101 rfl ?_
          refine V_iald (pc := 103) C (t) rfl (by omega) (Nat.le_of_ble_eq_true rfl) (wg hG (by decide) (by decide)) wF_29 dX9_tie_103 ?_
          refine V_goto (tgt := 108) (pc := 104) C dX9_tie_104 (by decide) ?_
          refine Vs_istore (lv' := [(0, _), (1, _), (2, _), (3, _), (4, _), (5, _), (6, _)]) (pc := 108) C dX9_tie_108 (by decide) rfl rfl ?_
          refine Vs_iinc (lv' := [(0, _), (1, _), (2, _), (3, _), (4, _), (5, _), (6, _)]) (pc := 110) C 4 dX9_tie_110 rfl (by decide) rfl rfl rfl ?_
          refine Vs_iinc (v := nI (t + 1)) (lv' := [(0, _), (1, _), (2, _), (3, _), (4, _), (5, _), (6, _)]) (pc := 113) C 6 dX9_tie_113 rfl (by decide) rfl (nI_i1 (t)) rfl ?_
          refine V_goto (tgt := 30) (pc := 116) C dX9_tie_116 (by decide) ?_
          exact ih (t + 1) (q.1 + M.1 6 t 0, q.2.1 + M.1 6 t 1, q.2.2.1 + 1, M.1 29 0 t) (by omega) (by simpa only [tStep, if_neg h_45, if_pos (Or.inl h_76 : q.2.2.1 = 0 ∨ q.2.2.2 = M.1 29 0 t)] using hq2)
        · refine V_iload (pc := 79) C 5 dX9_tie_79 rfl ?_
          refine V_aload_n (pc := 81) C 0 dX9_tie_81 rfl rfl ?_
          refine get_X9_64 (pc := 82) C (wg hG (by decide) (by decide)) dX9_tie_82 ?_
          refine get_X9_133 (pc := 85) C (wg hG (by decide) (by decide)) dX9_tie_85 ?_
          refine V_iload (pc := 88) C 6 dX9_tie_88 rfl ?_
          refine V_iald (pc := 90) C (t) rfl (by omega) (Nat.le_of_ble_eq_true rfl) (wg hG (by decide) (by decide)) wF_29 dX9_tie_90 ?_
          refine V_icmp_ne (tgt := 107) (pc := 91) C dX9_tie_91 (by decide) (fun h_91 => ?_) (fun h_91 => ?_)
          · refine V_iconst (v := -1) (pc := 107) C dX9_tie_107 (by decide) ?_
            refine Vs_istore (lv' := [(0, _), (1, _), (2, _), (3, _), (4, _), (5, _), (6, _)]) (pc := 108) C dX9_tie_108 (by decide) rfl rfl ?_
            refine Vs_iinc (lv' := [(0, _), (1, _), (2, _), (3, _), (4, _), (5, _), (6, _)]) (pc := 110) C 4 dX9_tie_110 rfl (by decide) rfl rfl rfl ?_
            refine Vs_iinc (v := nI (t + 1)) (lv' := [(0, _), (1, _), (2, _), (3, _), (4, _), (5, _), (6, _)]) (pc := 113) C 6 dX9_tie_113 rfl (by decide) rfl (nI_i1 (t)) rfl ?_
            refine V_goto (tgt := 30) (pc := 116) C dX9_tie_116 (by decide) ?_
            exact ih (t + 1) (q.1 + M.1 6 t 0, q.2.1 + M.1 6 t 1, q.2.2.1 + 1, -1) (by omega) (by simpa only [tStep, if_neg h_45, if_neg (fun z => z.elim h_76 h_91 : ¬ (q.2.2.1 = 0 ∨ q.2.2.2 = M.1 29 0 t))] using hq2)
          · refine V_aload_n (pc := 94) C 0 dX9_tie_94 rfl rfl ?_
            refine get_X9_64 (pc := 95) C (wg hG (by decide) (by decide)) dX9_tie_95 ?_
            refine get_X9_133 (pc := 98) C (wg hG (by decide) (by decide)) dX9_tie_98 ?_
            refine V_iload (pc := 101) C 6 dX9_tie_101 rfl ?_
            refine V_iald (pc := 103) C (t) rfl (by omega) (Nat.le_of_ble_eq_true rfl) (wg hG (by decide) (by decide)) wF_29 dX9_tie_103 ?_
            refine V_goto (tgt := 108) (pc := 104) C dX9_tie_104 (by decide) ?_
            refine Vs_istore (lv' := [(0, _), (1, _), (2, _), (3, _), (4, _), (5, _), (6, _)]) (pc := 108) C dX9_tie_108 (by decide) rfl rfl ?_
            refine Vs_iinc (lv' := [(0, _), (1, _), (2, _), (3, _), (4, _), (5, _), (6, _)]) (pc := 110) C 4 dX9_tie_110 rfl (by decide) rfl rfl rfl ?_
            refine Vs_iinc (v := nI (t + 1)) (lv' := [(0, _), (1, _), (2, _), (3, _), (4, _), (5, _), (6, _)]) (pc := 113) C 6 dX9_tie_113 rfl (by decide) rfl (nI_i1 (t)) rfl ?_
            refine V_goto (tgt := 30) (pc := 116) C dX9_tie_116 (by decide) ?_
            exact ih (t + 1) (q.1 + M.1 6 t 0, q.2.1 + M.1 6 t 1, q.2.2.1 + 1, M.1 29 0 t) (by omega) (by simpa only [tStep, if_neg h_45, if_pos (Or.inr h_91 : q.2.2.1 = 0 ∨ q.2.2.2 = M.1 29 0 t)] using hq2)
theorem c3_X9_tie (hG : 30 ≤ G) (hd : 1 ≤ d) (M : wS) {nt : Nat} (hnt : M.1 0 0 12 = nI nt) (ht7 : nt ≤ 7) (v : Int32) : Ctr l D cy ad G d yX9_tie cX9_tie 7 (some .boolean) [.ref (ad 0 0), .int v] M (rI fun x M' => x = bP (kTied M nt v) ∧ (kTied M nt v → M' = kTieM M nt v) ∧ St M M') := by
  refine Ctr.of (lv0 := [(0, _), (1, _)]) (by decide) (Nat.le_of_ble_eq_true rfl) rfl ?_
  intro p e s m args below meth c C hr hlk _
  have C : CX p s m args c cX9_tie 7 "CostsAge" D cy ad G (wA ad G) (Rm d) d 0 0 := C
  refine V_iload_n (pc := 0) C 1 dX9_tie_0 rfl rfl ?_
  refine V_if_eq (tgt := 15) (pc := 1) C dX9_tie_1 (by decide) (fun h_1 => ?_) (fun h_1 => ?_)
  · refine V_iconst (v := 0) (pc := 15) C dX9_tie_15 (by decide) ?_
    refine V_zret (pc := 16) C hr hlk rfl dX9_tie_16 ⟨_, rfl, ?_⟩
    exact ⟨bP_f (fun z => z.1 h_1), fun z => absurd h_1 z.1, St.rf⟩
  · refine V_iload_n (pc := 4) C 1 dX9_tie_4 rfl rfl ?_
    refine V_aload_n (pc := 5) C 0 dX9_tie_5 rfl rfl ?_
    refine call_X9_216 (pc := 6) C (c_X9_unbought (d := d - 1) hG M) (by omega) (wg hG (by decide) (by decide)) (Nat.le_of_ble_eq_true rfl) dX9_tie_6 (fun x_6 M_6 h_6 => ?_)
    obtain ⟨e_6, rfl⟩ := h_6
    have e_6 := e_6.symm
    subst e_6
    refine V_iconst (v := -1) (pc := 9) C dX9_tie_9 (by decide) ?_
    refine V_ixor (pc := 10) C dX9_tie_10 ?_
    refine V_iand (pc := 11) C dX9_tie_11 ?_
    refine V_if_eq (tgt := 17) (pc := 12) C dX9_tie_12 (by decide) (fun h_12 => ?_) (fun h_12 => ?_)
    · refine V_iconst (v := 0) (pc := 17) C dX9_tie_17 (by decide) ?_
      refine Vs_istore_n (lv' := [(0, _), (1, _), (2, _)]) (pc := 18) C dX9_tie_18 rfl (by decide) rfl rfl ?_
      refine V_iconst (v := 0) (pc := 19) C dX9_tie_19 (by decide) ?_
      refine Vs_istore_n (lv' := [(0, _), (1, _), (2, _), (3, _)]) (pc := 20) C dX9_tie_20 rfl (by decide) rfl rfl ?_
      refine V_iconst (v := 0) (pc := 21) C dX9_tie_21 (by decide) ?_
      refine Vs_istore (lv' := [(0, _), (1, _), (2, _), (3, _), (4, _)]) (pc := 22) C dX9_tie_22 (by decide) rfl rfl ?_
      refine V_iconst (v := -1) (pc := 24) C dX9_tie_24 (by decide) ?_
      refine Vs_istore (lv' := [(0, _), (1, _), (2, _), (3, _), (4, _), (5, _)]) (pc := 25) C dX9_tie_25 (by decide) rfl rfl ?_
      refine V_iconst (v := 0) (pc := 27) C dX9_tie_27 (by decide) ?_
      refine Vs_istore (lv' := [(0, _), (1, _), (2, _), (3, _), (4, _), (5, _), (6, _)]) (pc := 28) C dX9_tie_28 (by decide) rfl rfl ?_
      refine lp_X9_tie C hr hlk hG hd M hnt ht7 v _ nt 0 (0, 0, 0, -1) (by omega) ?_
      rintro q' rfl
      by_cases hz : (kTieQ M nt v).2.2.1 = 1 ∨ (kTieQ M nt v).1 ≤ M.1 26 0 7
      · refine ⟨?_, fun _ => rfl, kShow_st _ _ _ _⟩
        rw [show tRun M v 0 nt (0, 0, 0, -1) = kTieQ M nt v from rfl, if_pos hz]
        exact bP_t ⟨h_1, h_12, hz⟩
      · refine ⟨?_, fun _ => rfl, kShow_st _ _ _ _⟩
        rw [show tRun M v 0 nt (0, 0, 0, -1) = kTieQ M nt v from rfl, if_neg hz]
        exact bP_f (fun z => hz z.2.2)
    · refine V_iconst (v := 0) (pc := 15) C dX9_tie_15 (by decide) ?_
      refine V_zret (pc := 16) C hr hlk rfl dX9_tie_16 ⟨_, rfl, ?_⟩
      exact ⟨bP_f (fun z => h_12 z.2.1), fun z => absurd z.2.1 h_12, St.rf⟩
theorem c_X9_tie (hG : 30 ≤ G) (hd : 1 ≤ d) (M : wS) {nt : Nat} (hnt : M.1 0 0 12 = nI nt) (ht7 : nt ≤ 7) (v : Int32) : Ctr l D cy ad G d yX9_tie cX9_tie 7 (some .boolean) [.ref (ad 0 0), .int v] M (rI fun x M' => x = bP (kTied M nt v) ∧ (kTied M nt v → M' = kTieM M nt v) ∧ Scr M M') := by
  refine (c3_X9_tie hG hd M hnt ht7 v).weaken ?_
  rintro _ M' ⟨x, rfl, h1, h2, h3⟩
  exact ⟨_, rfl, h1, h2, h3.scr⟩
theorem c2_X9_showAlone (hG : 30 ≤ G) (hd : 1 ≤ d) (M : wS) {t : Nat} (ht : t < 7) : Ctr l D cy ad G d yX9_showAlone cX9_showAlone 2 (some .boolean) [.ref (ad 0 0), .int (nI t)] M (rI fun x M' => x = bP (¬ hasB (M.1 26 0 3) t) ∧ (¬ hasB (M.1 26 0 3) t → M' = kShow M (M.1 6 t 0) (M.1 6 t 1) (M.1 29 0 t)) ∧ (hasB (M.1 26 0 3) t → M' = M)) := by
  refine (c_X9_showAlone hG hd M ht).weaken ?_
  rintro _ M' ⟨x, rfl, ⟨h, rfl, rfl⟩ | ⟨h, rfl, rfl⟩⟩
  · exact ⟨_, rfl, bP_f (fun z => z h), fun z => absurd h z, fun _ => rfl⟩
  · exact ⟨_, rfl, bP_t h, fun _ => rfl, fun z => absurd z h⟩
/-- what the class's methods of prices stand on -/
def IP (M : wS) (nb nt r e1 e2 e3 : Nat) : Prop := (M.1 0 0 11 = nI nb ∧ nb ≤ 7) ∧ (M.1 0 0 12 = nI nt ∧ nt ≤ 7) ∧ IX M r e1 e2 e3 ∧ IB M ∧ (0 ≤ M.1 26 0 4 ∧ M.1 26 0 4 ≤ 51)
theorem IP.scr {M M' : wS} {nb nt r e1 e2 e3 : Nat} (h : Scr M M') (hp : IP M nb nt r e1 e2 e3) : IP M' nb nt r e1 e2 e3 := by
  unfold IP IX IB at *
  rw [h.1 0 0 (by decide), h.1 26 0 (by decide), h.1 7 r (by decide), h.1 27 0 (by decide), h.1 28 0 (by decide)]
  refine ⟨hp.1, hp.2.1, hp.2.2.1, fun k hk => ?_, hp.2.2.2.2⟩
  rw [h.1 5 k (by decide)]
  exact hp.2.2.2.1 k hk
def kOKc (M : wS) (nb nt : Nat) (buyer v n : Int32) : Prop := (0 ≤ buyer ∧ buyer < nI nb) ∧ (0 ≤ n ∧ n ≤ 103) ∧ kTied M nt v
theorem c_X9_cost (hG : 30 ≤ G) (hd : 5 ≤ d) (M : wS) {nb nt r e1 e2 e3 : Nat} (hP : IP M nb nt r e1 e2 e3) (buyer v n : Int32) : Ctr l D cy ad G d yX9_cost cX9_cost 4 (some .int) [.ref (ad 0 0), .int buyer, .int v, .int n] M (rI fun x M' => Scr M M' ∧ (kOKc M nb nt buyer v n → x = kCost (kTieM M nt v) r e1 e2 buyer.toNatClampNeg (M.1 28 0 buyer.toNatClampNeg) n) ∧ (¬ kOKc M nb nt buyer v n → x = -2)) := by
  obtain ⟨⟨hnb, hn7⟩, ⟨hnt, ht7⟩, hX, hB, hw⟩ := id hP
  refine Ctr.of (lv0 := [(0, _), (1, _), (2, _), (3, _)]) (by decide) (Nat.le_of_ble_eq_true rfl) rfl ?_
  intro p e s m args below meth c C hr hlk _
  have C : CX p s m args c cX9_cost 4 "CostsAge" D cy ad G (wA ad G) (Rm d) d 0 0 := C
  refine V_aload_n (pc := 0) C 0 dX9_cost_0 rfl rfl ?_
  refine V_iload_n (pc := 1) C 1 dX9_cost_1 rfl rfl ?_
  refine call_X9_136 (pc := 2) C (c_X9_isBuyer (d := d - 1) hG M _) (by omega) (wg hG (by decide) (by decide)) (Nat.le_of_ble_eq_true rfl) dX9_cost_2 (fun x_2 M_2 h_2 => ?_)
  obtain ⟨e_2, rfl⟩ := h_2
  have e_2 := e_2.symm
  subst e_2
  refine V_if_eq (tgt := 25) (pc := 5) C dX9_cost_5 (by decide) (fun h_5 => ?_) (fun h_5 => ?_)
  · have h_5 := bJ_0.mp h_5
    rw [hnb] at h_5
    refine V_bipush (v := -2) (pc := 25) C dX9_cost_25 (by decide) ?_
    refine V_iret (pc := 27) C hr hlk dX9_cost_27 ⟨_, rfl, ?_⟩
    exact ⟨Scr.rf, fun z => absurd z.1 h_5, fun _ => rfl⟩
  · have h_5 := bJ_1.mp h_5
    rw [hnb] at h_5
    obtain ⟨k, hk, rfl⟩ := ix_of h_5.1 h_5.2 (by omega)
    refine V_iload_n (pc := 8) C 3 dX9_cost_8 rfl rfl ?_
    refine V_bipush (v := 103) (pc := 9) C dX9_cost_9 (by decide) ?_
    refine call_X9_102 (pc := 11) C (c_X9_isWithin (d := d - 1) M _ _) (by omega) (Nat.le_of_ble_eq_true rfl) dX9_cost_11 (fun x_11 M_11 h_11 => ?_)
    obtain ⟨e_11, rfl⟩ := h_11
    have e_11 := e_11.symm
    subst e_11
    refine V_if_eq (tgt := 25) (pc := 14) C dX9_cost_14 (by decide) (fun h_14 => ?_) (fun h_14 => ?_)
    · have h_14 := bJ_0.mp h_14
      refine V_bipush (v := -2) (pc := 25) C dX9_cost_25 (by decide) ?_
      refine V_iret (pc := 27) C hr hlk dX9_cost_27 ⟨_, rfl, ?_⟩
      exact ⟨Scr.rf, fun z => absurd z.2.1 h_14, fun _ => rfl⟩
    · have h_14 := bJ_1.mp h_14
      refine V_aload_n (pc := 17) C 0 dX9_cost_17 rfl rfl ?_
      refine V_iload_n (pc := 18) C 2 dX9_cost_18 rfl rfl ?_
      refine call_X9_180 (pc := 19) C (c_X9_tie (d := d - 1) hG (by omega) M hnt ht7 v) (by omega) (wg hG (by decide) (by decide)) (Nat.le_of_ble_eq_true rfl) dX9_cost_19 (fun x_19 M_19 h_19 => ?_)
      obtain ⟨rfl, h_t, h_s⟩ := h_19
      refine V_if_ne (tgt := 28) (pc := 22) C dX9_cost_22 (by decide) (fun h_22 => ?_) (fun h_22 => ?_)
      · have h_22 := bJ_1.mp h_22
        have e9 := h_t h_22
        subst e9
        have hP2 := hP.scr h_s
        refine V_aload_n (pc := 28) C 0 dX9_cost_28 rfl rfl ?_
        refine V_iload_n (pc := 29) C 1 dX9_cost_29 rfl rfl ?_
        refine V_aload_n (pc := 30) C 0 dX9_cost_30 rfl rfl ?_
        refine get_X9_64 (pc := 31) C (wg hG (by decide) (by decide)) dX9_cost_31 ?_
        refine get_X9_122 (pc := 34) C (wg hG (by decide) (by decide)) dX9_cost_34 ?_
        refine V_iload_n (pc := 37) C 1 dX9_cost_37 rfl rfl ?_
        refine V_iald (pc := 38) C (k) rfl (by omega) (Nat.le_of_ble_eq_true rfl) (wg hG (by decide) (by decide)) wF_28 dX9_cost_38 ?_
        refine V_iload_n (pc := 39) C 3 dX9_cost_39 rfl rfl ?_
        refine call_X9_183 (pc := 40) C (c2_X9_costBy (d := d - 1) hG (by omega) _ hP2.2.2.1 hP2.2.2.2.1 hP2.2.2.2.2 (k := k) (by omega) _ n h_14) (by omega) (wg hG (by decide) (by decide)) (Nat.le_of_ble_eq_true rfl) dX9_cost_40 (fun x_40 M_40 h_40 => ?_)
        obtain ⟨hS1, rfl⟩ := h_40
        refine V_iret (pc := 43) C hr hlk dX9_cost_43 ⟨_, rfl, ?_⟩
        refine ⟨h_s.tr hS1.scr, fun _ => ?_, fun z => absurd ⟨h_5, h_14, h_22⟩ z⟩
        rw [nI_clamp (by omega), h_s.1 28 0 (by decide)]
      · have h_22 := bJ_0.mp h_22
        refine V_bipush (v := -2) (pc := 25) C dX9_cost_25 (by decide) ?_
        refine V_iret (pc := 27) C hr hlk dX9_cost_27 ⟨_, rfl, ?_⟩
        exact ⟨h_s, fun z => absurd z.2.2 h_22, fun _ => rfl⟩
theorem c_X9_best (hG : 30 ≤ G) (hd : 6 ≤ d) (M : wS) {nb nt r e1 e2 e3 : Nat} (hP : IP M nb nt r e1 e2 e3) (v n what : Int32) : Ctr l D cy ad G d yX9_best cX9_best 5 (some .int) [.ref (ad 0 0), .int v, .int n, .int what] M (rI fun x M' => Scr M M' ∧ ((0 ≤ n ∧ n ≤ 103) ∧ (0 ≤ what ∧ what ≤ 1) ∧ kTied M nt v → x = if 0 ≤ kLeast (kTieM M nt v) nb r e1 e2 n then (if what = 1 then kLeast (kTieM M nt v) nb r e1 e2 n else kFirstF (fun k => kCost (kTieM M nt v) r e1 e2 k ((kTieM M nt v).1 28 0 k) n) (kLeast (kTieM M nt v) nb r e1 e2 n) 0 nb) else -1) ∧ (¬ ((0 ≤ n ∧ n ≤ 103) ∧ (0 ≤ what ∧ what ≤ 1) ∧ kTied M nt v) → x = -2)) := by
  obtain ⟨⟨hnb, hn7⟩, ⟨hnt, ht7⟩, hX, hB, hw⟩ := id hP
  refine Ctr.of (lv0 := [(0, _), (1, _), (2, _), (3, _)]) (by decide) (Nat.le_of_ble_eq_true rfl) rfl ?_
  intro p e s m args below meth c C hr hlk _
  have C : CX p s m args c cX9_best 5 "CostsAge" D cy ad G (wA ad G) (Rm d) d 0 0 := C
  refine V_iload_n (pc := 0) C 2 dX9_best_0 rfl rfl ?_
  refine V_bipush (v := 103) (pc := 1) C dX9_best_1 (by decide) ?_
  refine call_X9_102 (pc := 3) C (c_X9_isWithin (d := d - 1) M _ _) (by omega) (Nat.le_of_ble_eq_true rfl) dX9_best_3 (fun x_3 M_3 h_3 => ?_)
  obtain ⟨e_3, rfl⟩ := h_3
  have e_3 := e_3.symm
  subst e_3
  refine V_if_eq (tgt := 25) (pc := 6) C dX9_best_6 (by decide) (fun h_6 => ?_) (fun h_6 => ?_)
  · have h_6 := bJ_0.mp h_6
    refine V_bipush (v := -2) (pc := 25) C dX9_best_25 (by decide) ?_
    refine V_iret (pc := 27) C hr hlk dX9_best_27 ⟨_, rfl, ?_⟩
    exact ⟨Scr.rf, fun z => absurd z.1 h_6, fun _ => rfl⟩
  · have h_6 := bJ_1.mp h_6
    refine V_iload_n (pc := 9) C 3 dX9_best_9 rfl rfl ?_
    refine V_iconst (v := 1) (pc := 10) C dX9_best_10 (by decide) ?_
    refine call_X9_102 (pc := 11) C (c_X9_isWithin (d := d - 1) M _ _) (by omega) (Nat.le_of_ble_eq_true rfl) dX9_best_11 (fun x_11 M_11 h_11 => ?_)
    obtain ⟨e_11, rfl⟩ := h_11
    have e_11 := e_11.symm
    subst e_11
    refine V_if_eq (tgt := 25) (pc := 14) C dX9_best_14 (by decide) (fun h_14 => ?_) (fun h_14 => ?_)
    · have h_14 := bJ_0.mp h_14
      refine V_bipush (v := -2) (pc := 25) C dX9_best_25 (by decide) ?_
      refine V_iret (pc := 27) C hr hlk dX9_best_27 ⟨_, rfl, ?_⟩
      exact ⟨Scr.rf, fun z => absurd z.2.1 h_14, fun _ => rfl⟩
    · have h_14 := bJ_1.mp h_14
      refine V_aload_n (pc := 17) C 0 dX9_best_17 rfl rfl ?_
      refine V_iload_n (pc := 18) C 1 dX9_best_18 rfl rfl ?_
      refine call_X9_180 (pc := 19) C (c_X9_tie (d := d - 1) hG (by omega) M hnt ht7 v) (by omega) (wg hG (by decide) (by decide)) (Nat.le_of_ble_eq_true rfl) dX9_best_19 (fun x_19 M_19 h_19 => ?_)
      obtain ⟨rfl, h_t, h_s⟩ := h_19
      refine V_if_ne (tgt := 28) (pc := 22) C dX9_best_22 (by decide) (fun h_22 => ?_) (fun h_22 => ?_)
      · have h_22 := bJ_1.mp h_22
        have e9 := h_t h_22
        subst e9
        have hP2 := hP.scr h_s
        refine V_aload_n (pc := 28) C 0 dX9_best_28 rfl rfl ?_
        refine V_iload_n (pc := 29) C 2 dX9_best_29 rfl rfl ?_
        refine call_X9_186 (pc := 30) C (c_X9_leastCost (d := d - 1) hG (by omega) _ hP2.1.1 hn7 hP2.2.2.1 hP2.2.2.2.1 hP2.2.2.2.2 n h_6) (by omega) (wg hG (by decide) (by decide)) (Nat.le_of_ble_eq_true rfl) dX9_best_30 (fun x_30 M_30 h_30 => ?_)
        obtain ⟨hS1, rfl⟩ := h_30
        refine Vs_istore (lv' := [(0, _), (1, _), (2, _), (3, _), (4, _)]) (pc := 33) C dX9_best_33 (by decide) rfl rfl ?_
        refine V_iload (pc := 35) C 4 dX9_best_35 rfl ?_
        refine V_if_ge (tgt := 42) (pc := 37) C dX9_best_37 (by decide) (fun h_37 => ?_) (fun h_37 => ?_)
        · refine V_iload_n (pc := 42) C 3 dX9_best_42 rfl rfl ?_
          refine V_iconst (v := 1) (pc := 43) C dX9_best_43 (by decide) ?_
          refine V_icmp_ne (tgt := 52) (pc := 44) C dX9_best_44 (by decide) (fun h_44 => ?_) (fun h_44 => ?_)
          · refine V_aload_n (pc := 52) C 0 dX9_best_52 rfl rfl ?_
            refine V_iload (pc := 53) C 4 dX9_best_53 rfl ?_
            refine V_iload_n (pc := 55) C 2 dX9_best_55 rfl rfl ?_
            refine call_X9_189 (pc := 56) C (c_X9_firstBuyerFor (d := d - 1) hG (by omega) _ ((hP2.scr hS1.scr).1.1) hn7 (hP2.scr hS1.scr).2.2.1 (hP2.scr hS1.scr).2.2.2.1 (hP2.scr hS1.scr).2.2.2.2 _ n h_6) (by omega) (wg hG (by decide) (by decide)) (Nat.le_of_ble_eq_true rfl) dX9_best_56 (fun x_56 M_56 h_56 => ?_)
            obtain ⟨hS3, rfl⟩ := h_56
            refine V_iret (pc := 59) C hr hlk dX9_best_59 ⟨_, rfl, ?_⟩
            refine ⟨(h_s.tr hS1.scr).tr hS3.scr, fun _ => ?_, fun z => absurd ⟨h_6, h_14, h_22⟩ z⟩
            rw [if_pos h_37, if_neg h_44]
            exact congrArg (fun f => kFirstF f (kLeast (kTieM M nt v) nb r e1 e2 n) 0 nb) (funext fun k => by rw [kCost_sc hS1, hS1.1 28 0 (by decide) (by decide)])
          · refine V_iload (pc := 47) C 4 dX9_best_47 rfl ?_
            refine V_goto (tgt := 59) (pc := 49) C dX9_best_49 (by decide) ?_
            refine V_iret (pc := 59) C hr hlk dX9_best_59 ⟨_, rfl, ?_⟩
            exact ⟨h_s.tr hS1.scr, fun _ => by rw [if_pos h_37, if_pos h_44], fun z => absurd ⟨h_6, h_14, h_22⟩ z⟩
        · refine V_iconst (v := -1) (pc := 40) C dX9_best_40 (by decide) ?_
          refine V_iret (pc := 41) C hr hlk dX9_best_41 ⟨_, rfl, ?_⟩
          exact ⟨h_s.tr hS1.scr, fun _ => by rw [if_neg h_37], fun z => absurd ⟨h_6, h_14, h_22⟩ z⟩
      · have h_22 := bJ_0.mp h_22
        refine V_bipush (v := -2) (pc := 25) C dX9_best_25 (by decide) ?_
        refine V_iret (pc := 27) C hr hlk dX9_best_27 ⟨_, rfl, ?_⟩
        exact ⟨h_s, fun z => absurd z.2.2 h_22, fun _ => rfl⟩
end S17
