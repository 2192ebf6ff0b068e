/-- the nth (from 1) of the bits of a set, as the class seeks it -/
def nRun (O n : Nat) : Nat → Nat → Nat → Int32
  | 0, _, _ => -1
  | k + 1, t, seen => if (if O.testBit t then seen + 1 else seen) = n then nI t else nRun O n k (t + 1) (if O.testBit t then seen + 1 else seen)
theorem hasB_i : ∀ O, O < 128 → ∀ t, t < 7 → (¬ (nI O >>> (nI t &&& 31)) &&& 1 = 0) = (O.testBit t = true) := by decide +kernel
def mAdd (cur x y : Option Nat) : Option Nat := match x, y with
  | some a, some b => (match cur with
    | none => some (a + b)
    | some c => if a + b < c then some (a + b) else some c)
  | _, _ => cur
def eCellF (c : Nat → Option Nat) (T : Nat → Option Nat) (K : Nat) : Nat → Nat → Option Nat → Option Nat
  | _, 0, cur => cur
  | b, n + 1, cur => eCellF c T K (b + 1) n (if K.testBit b then mAdd cur (T (K ^^^ 2 ^ b)) (c b) else cur)
theorem bit_x : ∀ K, K < 128 → ∀ b, b < 7 → K.testBit b = true → (K ^^^ 2 ^ b) < K ∧ K ^^^ 2 ^ b < 128 := by decide +kernel
theorem pow7 : ∀ b, b < 7 → 2 ^ b < 128 := by decide
theorem mAdd_le {cur x y : Option Nat} {B : Nat} (hx : ∀ a, x = some a → ∀ b, y = some b → a + b ≤ B) (hc : ∀ a, cur = some a → a ≤ B) : ∀ a, mAdd cur x y = some a → a ≤ B := by
  intro a ha
  unfold mAdd at ha
  split at ha
  · next x1 y1 =>
    have h1 := hx _ rfl _ rfl
    split at ha
    · cases ha; exact h1
    · next c =>
      split at ha
      · cases ha; exact h1
      · cases ha; exact hc _ rfl
  · exact hc a ha
section S28
variable {l : Launch} {D : va_G} {cy : Nat → ClassId} {ad : Nat → Nat → Nat} {G d : Nat}
theorem lp_X9_nthOf {p : Program} {e : Env} {s : State} {m : MethodId} {args : Array Value} {below : List Frame} {meth : Method} {c : Code} (C : CX p s m args c cX9_nthOf 5 "CostsAge" D cy ad G (wA ad G) (Rm d) d 0 0) (hr : meth.sig.returnType = (some .int)) (hlk : meth.locks = false) (hG : 30 ≤ G) (hd : 1 ≤ d) (M : wS) {nt O n0 : Nat} (hnt : M.1 0 0 12 = nI nt) (ht7 : nt ≤ 7) (hO : O < 128) (hn0 : n0 < 100) (Qf : Int32 → wS → Prop) : ∀ (k t seen : Nat), t + k = nt → seen ≤ t → Qf (nRun O n0 k t seen) M → V p l e (Rm d) s m args below meth c 5 D cy ad G (wA ad G) 0 0 (MQ below (wQ D cy ad G (rI Qf)) args s 0 0 (wA ad G)) 5 [(0, .ref (ad 0 0)), (1, .int (nI O)), (2, .int (nI n0)), (3, .int (nI seen)), (4, .int (nI t))] [] M := by
  intro k
  induction k with
  | zero =>
    intro t seen ht hs hq
    refine V_iload (pc := 5) C 4 dX9_nthOf_5 rfl ?_
    refine V_aload_n (pc := 7) C 0 dX9_nthOf_7 rfl rfl ?_
    refine get_X9_124 (pc := 8) C (wg hG (by decide) (by decide)) dX9_nthOf_8 ?_
    refine V_icmp_ge (tgt := 40) (pc := 11) C dX9_nthOf_11 (by decide) (fun h_11 => ?_) (fun h_11 => ?_)
    · refine V_iconst (v := -1) (pc := 40) C dX9_nthOf_40 (by decide) ?_
      refine V_iret (pc := 41) C hr hlk dX9_nthOf_41 ⟨_, rfl, ?_⟩
      exact hq
    · rw [hnt] at h_11
      exact absurd (nI_le (by omega) (by omega)) h_11
  | succ k ih =>
    intro t seen ht hs hq
    have hq2 : Qf (if (if O.testBit t then seen + 1 else seen) = n0 then nI t else nRun O n0 k (t + 1) (if O.testBit t then seen + 1 else seen)) M := hq
    refine V_iload (pc := 5) C 4 dX9_nthOf_5 rfl ?_
    refine V_aload_n (pc := 7) C 0 dX9_nthOf_7 rfl rfl ?_
    refine get_X9_124 (pc := 8) C (wg hG (by decide) (by decide)) dX9_nthOf_8 ?_
    refine V_icmp_ge (tgt := 40) (pc := 11) C dX9_nthOf_11 (by decide) (fun h_11 => ?_) (fun h_11 => ?_)
    · rw [hnt] at h_11
      exact absurd h_11 (nI_ge (by omega) (by omega))
    · refine V_iload_n (pc := 14) C 1 dX9_nthOf_14 rfl rfl ?_
      refine V_iload (pc := 15) C 4 dX9_nthOf_15 rfl ?_
      refine call_X9_209 (pc := 17) C (c_X9_has (d := d - 1) M _ _) (by omega) (Nat.le_of_ble_eq_true rfl) dX9_nthOf_17 (fun x_17 M_17 h_17 => ?_)
      obtain ⟨e_17, rfl⟩ := h_17
      have e_17 := e_17.symm
      subst e_17
      refine V_if_eq (tgt := 26) (pc := 20) C dX9_nthOf_20 (by decide) (fun h_20 => ?_) (fun h_20 => ?_)
      · have h_20 := bJ_0.mp h_20
        rw [hasB_i O hO t (by omega)] at h_20
        refine V_iload_n (pc := 26) C 3 dX9_nthOf_26 rfl rfl ?_
        refine V_iload_n (pc := 27) C 2 dX9_nthOf_27 rfl rfl ?_
        refine V_icmp_ne (tgt := 34) (pc := 28) C dX9_nthOf_28 (by decide) (fun h_28 => ?_) (fun h_28 => ?_)
        · rw [nI_eq (by omega) (by omega)] at h_28
          refine Vs_iinc (v := nI (t + 1)) (lv' := [(0, _), (1, _), (2, _), (3, _), (4, _)]) (pc := 34) C 4 dX9_nthOf_34 rfl (by decide) rfl (nI_i1 (t)) rfl ?_
          refine V_goto (tgt := 5) (pc := 37) C dX9_nthOf_37 (by decide) ?_
          rw [if_neg h_20, if_neg h_28] at hq2
          exact ih (t + 1) seen (by omega) (by omega) hq2
        · rw [nI_eq (by omega) (by omega)] at h_28
          refine V_iload (pc := 31) C 4 dX9_nthOf_31 rfl ?_
          refine V_iret (pc := 33) C hr hlk dX9_nthOf_33 ⟨_, rfl, ?_⟩
          rw [if_neg h_20, if_pos h_28] at hq2
          exact hq2
      · have h_20 := bJ_1.mp h_20
        rw [hasB_i O hO t (by omega)] at h_20
        refine Vs_iinc (v := nI (seen + 1)) (lv' := [(0, _), (1, _), (2, _), (3, _), (4, _)]) (pc := 23) C 3 dX9_nthOf_23 rfl (by decide) rfl (nI_i1 (seen)) rfl ?_
        refine V_iload_n (pc := 26) C 3 dX9_nthOf_26 rfl rfl ?_
        refine V_iload_n (pc := 27) C 2 dX9_nthOf_27 rfl rfl ?_
        refine V_icmp_ne (tgt := 34) (pc := 28) C dX9_nthOf_28 (by decide) (fun h_28 => ?_) (fun h_28 => ?_)
        · rw [nI_eq (by omega) (by omega)] at h_28
          refine Vs_iinc (v := nI (t + 1)) (lv' := [(0, _), (1, _), (2, _), (3, _), (4, _)]) (pc := 34) C 4 dX9_nthOf_34 rfl (by decide) rfl (nI_i1 (t)) rfl ?_
          refine V_goto (tgt := 5) (pc := 37) C dX9_nthOf_37 (by decide) ?_
          rw [if_pos h_20, if_neg h_28] at hq2
          exact ih (t + 1) (seen + 1) (by omega) (by omega) hq2
        · rw [nI_eq (by omega) (by omega)] at h_28
          refine V_iload (pc := 31) C 4 dX9_nthOf_31 rfl ?_
          refine V_iret (pc := 33) C hr hlk dX9_nthOf_33 ⟨_, rfl, ?_⟩
          rw [if_pos h_20, if_pos h_28] at hq2
          exact hq2
theorem c_X9_nthOf (hG : 30 ≤ G) (hd : 1 ≤ d) (M : wS) {nt O n0 : Nat} (hnt : M.1 0 0 12 = nI nt) (ht7 : nt ≤ 7) (hO : O < 128) (hn0 : n0 < 100) : Ctr l D cy ad G d yX9_nthOf cX9_nthOf 5 (some .int) [.ref (ad 0 0), .int (nI O), .int (nI n0)] M (rI fun x M' => M' = M ∧ x = nRun O n0 nt 0 0) := by
  refine Ctr.of (lv0 := [(0, _), (1, _), (2, _)]) (by decide) (Nat.le_of_ble_eq_true rfl) rfl ?_
  intro p e s m args below meth c C hr hlk _
  have C : CX p s m args c cX9_nthOf 5 "CostsAge" D cy ad G (wA ad G) (Rm d) d 0 0 := C
  refine V_iconst (v := 0) (pc := 0) C dX9_nthOf_0 (by decide) ?_
  refine Vs_istore_n (lv' := [(0, _), (1, _), (2, _), (3, _)]) (pc := 1) C dX9_nthOf_1 rfl (by decide) rfl rfl ?_
  refine V_iconst (v := 0) (pc := 2) C dX9_nthOf_2 (by decide) ?_
  refine Vs_istore (lv' := [(0, _), (1, _), (2, _), (3, _), (4, _)]) (pc := 3) C dX9_nthOf_3 (by decide) rfl rfl ?_
  exact lp_X9_nthOf C hr hlk hG hd M hnt ht7 hO hn0 _ nt 0 0 (by omega) (Nat.le_refl _) ⟨rfl, rfl⟩
theorem lp_X9_crewCost {p : Program} {e : Env} {s : State} {m : MethodId} {args : Array Value} {below : List Frame} {meth : Method} {c : Code} (C : CX p s m args c cX9_crewCost 10 "CostsAge" D cy ad G (wA ad G) (Rm d) d 0 0) (hr : meth.sig.returnType = (some .int)) (hlk : meth.locks = false) (hG : 30 ≤ G) (hd : 1 ≤ d) (M : wS) {nb K t : Nat} (hnb : M.1 0 0 11 = nI nb) (hn7 : nb ≤ 7) (hK : K < 128) (ht : t < 7) {kc T : Nat → Option Nat} (hT : ∀ K', K' < K → eP (T K') (M.1 21 0 K')) (hTb : ∀ K', K' < K → ∀ a, T K' = some a → a ≤ 2000 * K') (hc : ∀ b, b < nb → eP (kc b) (M.1 23 0 (7 * b + t))) (hcb : ∀ b a, kc b = some a → a ≤ 2000) (op mn sz : Int32) (Qf : Int32 → wS → Prop) : ∀ (n b : Nat) (cur : Option Nat) (least : Int32), b + n = nb → eP cur least → (∀ a, cur = some a → a ≤ 2000 * K) → (∀ z, eP (eCellF kc T K b n cur) z → Qf z M) → V p l e (Rm d) s m args below meth c 10 D cy ad G (wA ad G) 0 0 (MQ below (wQ D cy ad G (rI Qf)) args s 0 0 (wA ad G)) 39 [(0, .ref (ad 0 0)), (1, .int (nI K)), (2, .int op), (3, .int mn), (4, .int sz), (5, .int (nI t)), (6, .int least), (7, .int (nI b))] [] M := by
  intro n
  induction n with
  | zero =>
    intro b cur least hb hcur hle hq
    refine V_iload (pc := 39) C 7 dX9_crewCost_39 rfl ?_
    refine V_aload_n (pc := 41) C 0 dX9_crewCost_41 rfl rfl ?_
    refine get_X9_106 (pc := 42) C (wg hG (by decide) (by decide)) dX9_crewCost_42 ?_
    refine V_icmp_ge (tgt := 137) (pc := 45) C dX9_crewCost_45 (by decide) (fun h_45 => ?_) (fun h_45 => ?_)
    · refine V_iload (pc := 137) C 6 dX9_crewCost_137 rfl ?_
      refine V_iret (pc := 139) C hr hlk dX9_crewCost_139 ⟨_, rfl, ?_⟩
      exact hq least hcur
    · rw [hnb] at h_45
      exact absurd (nI_le (by omega) (by omega)) h_45
  | succ n ih =>
    intro b cur least hb hcur hle hq
    have hq2 : ∀ z, eP (eCellF kc T K (b + 1) n (if K.testBit b then mAdd cur (T (K ^^^ 2 ^ b)) (kc b) else cur)) z → Qf z M := hq
    refine V_iload (pc := 39) C 7 dX9_crewCost_39 rfl ?_
    refine V_aload_n (pc := 41) C 0 dX9_crewCost_41 rfl rfl ?_
    refine get_X9_106 (pc := 42) C (wg hG (by decide) (by decide)) dX9_crewCost_42 ?_
    refine V_icmp_ge (tgt := 137) (pc := 45) C dX9_crewCost_45 (by decide) (fun h_45 => ?_) (fun h_45 => ?_)
    · rw [hnb] at h_45
      exact absurd h_45 (nI_ge (by omega) (by omega))
    · refine V_iload (pc := 48) C 5 dX9_crewCost_48 rfl ?_
      refine V_if_lt (tgt := 137) (pc := 50) C dX9_crewCost_50 (by decide) (fun h_50 => ?_) (fun h_50 => ?_)
      · exact absurd h_50 (nI_pos (by omega))
      · refine V_iload_n (pc := 53) C 1 dX9_crewCost_53 rfl rfl ?_
        refine V_iload (pc := 54) C 7 dX9_crewCost_54 rfl ?_
        refine call_X9_209 (pc := 56) C (c_X9_has (d := d - 1) M _ _) (by omega) (Nat.le_of_ble_eq_true rfl) dX9_crewCost_56 (fun x_56 M_56 h_56 => ?_)
        obtain ⟨e_56, rfl⟩ := h_56
        have e_56 := e_56.symm
        subst e_56
        refine V_if_ne (tgt := 65) (pc := 59) C dX9_crewCost_59 (by decide) (fun h_59 => ?_) (fun h_59 => ?_)
        · have h_59 := bJ_1.mp h_59
          rw [hasB_i K hK b (by omega)] at h_59
          obtain ⟨b1, b2⟩ := bit_x K hK b (by omega) h_59
          rw [if_pos h_59] at hq2
          have hTK := hT _ b1
          have hcK := hc b (by omega)
          refine V_aload_n (pc := 65) C 0 dX9_crewCost_65 rfl rfl ?_
          refine get_X9_50 (pc := 66) C (wg hG (by decide) (by decide)) dX9_crewCost_66 ?_
          refine get_X9_273 (pc := 69) C (wg hG (by decide) (by decide)) dX9_crewCost_69 ?_
          refine V_iload_n (pc := 72) C 1 dX9_crewCost_72 rfl rfl ?_
          refine V_iconst (v := 1) (pc := 73) C dX9_crewCost_73 (by decide) ?_
          refine V_iload (pc := 74) C 7 dX9_crewCost_74 rfl ?_
          refine V_ishl (pc := 76) C dX9_crewCost_76 ?_
          refine V_ixor (pc := 77) C dX9_crewCost_77 ?_
          rw [shl_i b (by omega), xor_i K hK (2 ^ b) (pow7 b (by omega))]
          refine V_iald (pc := 78) C (K ^^^ 2 ^ b) rfl b2 (Nat.le_of_ble_eq_true rfl) (wg hG (by decide) (by decide)) wF_21 dX9_crewCost_78 ?_
          refine Vs_istore (lv' := [(0, _), (1, _), (2, _), (3, _), (4, _), (5, _), (6, _), (7, _), (8, _)]) (pc := 79) C dX9_crewCost_79 (by decide) rfl rfl ?_
          refine V_aload_n (pc := 81) C 0 dX9_crewCost_81 rfl rfl ?_
          refine get_X9_57 (pc := 82) C (wg hG (by decide) (by decide)) dX9_crewCost_82 ?_
          refine get_X9_279 (pc := 85) C (wg hG (by decide) (by decide)) dX9_crewCost_85 ?_
          refine V_iload (pc := 88) C 7 dX9_crewCost_88 rfl ?_
          refine V_bipush (v := 7) (pc := 90) C dX9_crewCost_90 (by decide) ?_
          refine V_imul (pc := 92) C dX9_crewCost_92 ?_
          refine V_iload (pc := 93) C 5 dX9_crewCost_93 rfl ?_
          refine V_iadd (pc := 95) C dX9_crewCost_95 ?_
          refine V_iald (pc := 96) C (7 * b + t) (mul7 b t) (by omega) (Nat.le_of_ble_eq_true rfl) (wg hG (by decide) (by decide)) wF_23 dX9_crewCost_96 ?_
          refine Vs_istore (lv' := [(0, _), (1, _), (2, _), (3, _), (4, _), (5, _), (6, _), (7, _), (8, _), (9, _)]) (pc := 97) C dX9_crewCost_97 (by decide) rfl rfl ?_
          refine V_iload (pc := 99) C 8 dX9_crewCost_99 rfl ?_
          refine V_if_lt (tgt := 131) (pc := 101) C dX9_crewCost_101 (by decide) (fun h_101 => ?_) (fun h_101 => ?_)
          · have hx : T (K ^^^ 2 ^ b) = none := by
              cases hz : T (K ^^^ 2 ^ b) with
              | none => rfl
              | some a => rw [hz] at hTK; exact absurd h_101 (by rw [show M.1 21 0 (K ^^^ 2 ^ b) = nI a from hTK]; exact nI_pos (by have := hTb _ b1 a hz; omega))
            rw [show mAdd cur (T (K ^^^ 2 ^ b)) (kc b) = cur from by rw [hx]; rfl] at hq2
            refine Vs_iinc (v := nI (b + 1)) (lv' := [(0, _), (1, _), (2, _), (3, _), (4, _), (5, _), (6, _), (7, _), (8, _), (9, _)]) (pc := 131) C 7 dX9_crewCost_131 rfl (by decide) rfl (nI_i1 (b)) rfl ?_
            refine V_goto (tgt := 39) (pc := 134) C dX9_crewCost_134 (by decide) ?_
            refine V_loc (lv' := [(0, _), (1, _), (2, _), (3, _), (4, _), (5, _), (6, _), (7, _)]) [0, 1, 2, 3, 4, 5, 6, 7] rfl ?_
            exact ih (b + 1) _ _ (by omega) hcur hle hq2
          · have hx : ∃ a, T (K ^^^ 2 ^ b) = some a := by
              cases hz : T (K ^^^ 2 ^ b) with
              | none => rw [hz] at hTK; exact absurd hTK h_101
              | some a => exact ⟨a, rfl⟩
            obtain ⟨xa, hxa⟩ := hx
            have hxb := hTb _ b1 xa hxa
            rw [hxa] at hTK
            have hTK : M.1 21 0 (K ^^^ 2 ^ b) = nI xa := hTK
            refine V_iload (pc := 104) C 9 dX9_crewCost_104 rfl ?_
            refine V_if_lt (tgt := 131) (pc := 106) C dX9_crewCost_106 (by decide) (fun h_106 => ?_) (fun h_106 => ?_)
            · have hx : kc b = none := by
                cases hz : kc b with
                | none => rfl
                | some a => rw [hz] at hcK; exact absurd h_106 (by rw [show M.1 23 0 (7 * b + t) = nI a from hcK]; exact nI_pos (by have := hcb b a hz; omega))
              rw [show mAdd cur (T (K ^^^ 2 ^ b)) (kc b) = cur from by rw [hx, hxa]; rfl] at hq2
              refine Vs_iinc (v := nI (b + 1)) (lv' := [(0, _), (1, _), (2, _), (3, _), (4, _), (5, _), (6, _), (7, _), (8, _), (9, _)]) (pc := 131) C 7 dX9_crewCost_131 rfl (by decide) rfl (nI_i1 (b)) rfl ?_
              refine V_goto (tgt := 39) (pc := 134) C dX9_crewCost_134 (by decide) ?_
              refine V_loc (lv' := [(0, _), (1, _), (2, _), (3, _), (4, _), (5, _), (6, _), (7, _)]) [0, 1, 2, 3, 4, 5, 6, 7] rfl ?_
              exact ih (b + 1) _ _ (by omega) hcur hle hq2
            · have hx : ∃ a, kc b = some a := by
                cases hz : kc b with
                | none => rw [hz] at hcK; exact absurd hcK h_106
                | some a => exact ⟨a, rfl⟩
              obtain ⟨ya, hya⟩ := hx
              have hyb := hcb b ya hya
              rw [hya] at hcK
              have hcK : M.1 23 0 (7 * b + t) = nI ya := hcK
              have hle2 : ∀ a, mAdd cur (T (K ^^^ 2 ^ b)) (kc b) = some a → a ≤ 2000 * K := mAdd_le (fun a h1 a2 h2 => by rw [hxa] at h1; rw [hya] at h2; cases h1; cases h2; omega) hle
              rw [hxa, hya] at hle2 hq2
              rw [hTK, hcK]
              refine V_iload (pc := 109) C 6 dX9_crewCost_109 rfl ?_
              refine V_if_lt (tgt := 124) (pc := 111) C dX9_crewCost_111 (by decide) (fun h_111 => ?_) (fun h_111 => ?_)
              · have hx : cur = none := by
                  cases hz : cur with
                  | none => rfl
                  | some a => rw [hz] at hcur; exact absurd h_111 (by rw [show least = nI a from hcur]; exact nI_pos (by have := hle a hz; omega))
                subst hx
                refine V_iload (pc := 124) C 8 dX9_crewCost_124 rfl ?_
                refine V_iload (pc := 126) C 9 dX9_crewCost_126 rfl ?_
                refine V_iadd (pc := 128) C dX9_crewCost_128 ?_
                rw [nI_add]
                refine Vs_istore (lv' := [(0, _), (1, _), (2, _), (3, _), (4, _), (5, _), (6, _), (7, _), (8, _), (9, _)]) (pc := 129) C dX9_crewCost_129 (by decide) rfl rfl ?_
                refine Vs_iinc (v := nI (b + 1)) (lv' := [(0, _), (1, _), (2, _), (3, _), (4, _), (5, _), (6, _), (7, _), (8, _), (9, _)]) (pc := 131) C 7 dX9_crewCost_131 rfl (by decide) rfl (nI_i1 (b)) rfl ?_
                refine V_goto (tgt := 39) (pc := 134) C dX9_crewCost_134 (by decide) ?_
                refine V_loc (lv' := [(0, _), (1, _), (2, _), (3, _), (4, _), (5, _), (6, _), (7, _)]) [0, 1, 2, 3, 4, 5, 6, 7] rfl ?_
                exact ih (b + 1) (some (xa + ya)) _ (by omega) rfl hle2 hq2
              · have hx : ∃ a, cur = some a := by
                  cases hz : cur with
                  | none => rw [hz] at hcur; exact absurd hcur h_111
                  | some a => exact ⟨a, rfl⟩
                obtain ⟨w, rfl⟩ := hx
                have hwb := hle w rfl
                have hcur : least = nI w := hcur
                refine V_iload (pc := 114) C 8 dX9_crewCost_114 rfl ?_
                refine V_iload (pc := 116) C 9 dX9_crewCost_116 rfl ?_
                refine V_iadd (pc := 118) C dX9_crewCost_118 ?_
                refine V_iload (pc := 119) C 6 dX9_crewCost_119 rfl ?_
                refine V_icmp_ge (tgt := 131) (pc := 121) C dX9_crewCost_121 (by decide) (fun h_121 => ?_) (fun h_121 => ?_)
                · rw [nI_add, hcur, nI_leI (by omega) (by omega)] at h_121
                  rw [show mAdd (some w) (some xa) (some ya) = some w from if_neg (by omega)] at hq2
                  refine Vs_iinc (v := nI (b + 1)) (lv' := [(0, _), (1, _), (2, _), (3, _), (4, _), (5, _), (6, _), (7, _), (8, _), (9, _)]) (pc := 131) C 7 dX9_crewCost_131 rfl (by decide) rfl (nI_i1 (b)) rfl ?_
                  refine V_goto (tgt := 39) (pc := 134) C dX9_crewCost_134 (by decide) ?_
                  refine V_loc (lv' := [(0, _), (1, _), (2, _), (3, _), (4, _), (5, _), (6, _), (7, _)]) [0, 1, 2, 3, 4, 5, 6, 7] rfl ?_
                  exact ih (b + 1) (some w) _ (by omega) hcur hle hq2
                · rw [nI_add, hcur, nI_leI (by omega) (by omega)] at h_121
                  rw [show mAdd (some w) (some xa) (some ya) = some (xa + ya) from if_pos (by omega)] at hq2 hle2
                  refine V_iload (pc := 124) C 8 dX9_crewCost_124 rfl ?_
                  refine V_iload (pc := 126) C 9 dX9_crewCost_126 rfl ?_
                  refine V_iadd (pc := 128) C dX9_crewCost_128 ?_
                  rw [nI_add]
                  refine Vs_istore (lv' := [(0, _), (1, _), (2, _), (3, _), (4, _), (5, _), (6, _), (7, _), (8, _), (9, _)]) (pc := 129) C dX9_crewCost_129 (by decide) rfl rfl ?_
                  refine Vs_iinc (v := nI (b + 1)) (lv' := [(0, _), (1, _), (2, _), (3, _), (4, _), (5, _), (6, _), (7, _), (8, _), (9, _)]) (pc := 131) C 7 dX9_crewCost_131 rfl (by decide) rfl (nI_i1 (b)) rfl ?_
                  refine V_goto (tgt := 39) (pc := 134) C dX9_crewCost_134 (by decide) ?_
                  refine V_loc (lv' := [(0, _), (1, _), (2, _), (3, _), (4, _), (5, _), (6, _), (7, _)]) [0, 1, 2, 3, 4, 5, 6, 7] rfl ?_
                  exact ih (b + 1) (some (xa + ya)) _ (by omega) rfl hle2 hq2
        · have h_59 := bJ_0.mp h_59
          rw [hasB_i K hK b (by omega)] at h_59
          rw [if_neg h_59] at hq2
          refine V_goto (tgt := 131) (pc := 62) C dX9_crewCost_62 (by decide) ?_
          refine Vs_iinc (v := nI (b + 1)) (lv' := [(0, _), (1, _), (2, _), (3, _), (4, _), (5, _), (6, _), (7, _)]) (pc := 131) C 7 dX9_crewCost_131 rfl (by decide) rfl (nI_i1 (b)) rfl ?_
          refine V_goto (tgt := 39) (pc := 134) C dX9_crewCost_134 (by decide) ?_
          exact ih (b + 1) _ _ (by omega) hcur hle hq2
end S28
