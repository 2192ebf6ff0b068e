def bitAt (O n : Nat) : Nat := ((List.range 7).filter (fun t => O.testBit t)).getD (n - 1) 0
def nrChk (nt O n : Nat) : Bool := !(Nat.blt O (2 ^ nt)) || !(Nat.ble 1 n) || !(Nat.ble n (pc7 O)) || ((nRun O n nt 0 0 == nI (bitAt O n)) && Nat.blt (bitAt O n) nt && O.testBit (bitAt O n))
theorem nr_chk : ∀ nt, nt < 8 → ∀ O, O < 128 → ∀ n, n < 8 → nrChk nt O n = true := by decide +kernel
theorem nr_ok {nt O n : Nat} (hnt : nt ≤ 7) (hO : O < 2 ^ nt) (hO7 : O < 128) (h1 : 1 ≤ n) (h2 : n ≤ pc7 O) (h7 : n < 8) : nRun O n nt 0 0 = nI (bitAt O n) ∧ bitAt O n < nt ∧ O.testBit (bitAt O n) = true := by
  have key := nr_chk nt (by omega) O hO7 n h7
  have c1 : Nat.blt O (2 ^ nt) = true := Nat.ble_eq_true_of_le hO
  have c2 : Nat.ble 1 n = true := Nat.ble_eq_true_of_le h1
  have c3 : Nat.ble n (pc7 O) = true := Nat.ble_eq_true_of_le h2
  simp only [nrChk, c1, c2, c3, Bool.not_true, Bool.false_or, Bool.and_eq_true, beq_iff_eq] at key
  exact ⟨key.1.1, Nat.le_of_ble_eq_true key.1.2, key.2⟩
theorem pc7_lt : ∀ K, K < 128 → pc7 K < 8 ∧ (pc7 K = 0 ↔ K = 0) := by decide +kernel
def eNew (c2 : Nat → Nat → Option Nat) (T : Nat → Option Nat) (O m nb K : Nat) : Option Nat := if K = 0 then some 0 else if pc7 K ≤ m then eCellF (fun b => c2 b (bitAt O (pc7 K))) T K 0 nb none else none
def eTab (c2 : Nat → Nat → Option Nat) (O m nb : Nat) : Nat → Nat → Option Nat
  | 0 => fun _ => none
  | n + 1 => fun K => if K = n then eNew c2 (eTab c2 O m nb n) O m nb n else eTab c2 O m nb n K
def minO (cur x : Option Nat) : Option Nat := match x with
  | none => cur
  | some a => (match cur with
    | none => some a
    | some c => if a < c then some a else some c)
def eBest (T : Nat → Option Nat) (m : Nat) : Nat → Nat → Option Nat → Option Nat
  | 0, _, cur => cur
  | n + 1, K, cur => eBest T m n (K + 1) (if pc7 K = m then minO cur (T K) else cur)
def encM (o : Option Nat) : Int32 := match o with
  | none => -1
  | some a => nI a
theorem eCellF_le {kc T : Nat → Option Nat} {K : Nat} (hK : K < 128) (hT : ∀ K', K' < K → ∀ a, T K' = some a → a ≤ 2000 * K') (hc : ∀ b a, kc b = some a → a ≤ 2000) : ∀ (n b : Nat) (cur : Option Nat), b + n ≤ 7 → (∀ a, cur = some a → a ≤ 2000 * K) → ∀ a, eCellF kc T K b n cur = some a → a ≤ 2000 * K := by
  intro n
  induction n with
  | zero => intro b cur _ h; exact h
  | succ n ih =>
    intro b cur hb h
    refine ih (b + 1) _ (by omega) ?_
    by_cases hz : K.testBit b = true
    · rw [if_pos hz]
      obtain ⟨b1, b2⟩ := bit_x K hK b (by omega) hz
      exact mAdd_le (fun a h1 a2 h2 => by have := hT _ b1 a h1; have := hc b a2 h2; omega) h
    · rw [if_neg hz]
      exact h
theorem eTab_le {c2 : Nat → Nat → Option Nat} {O m nb : Nat} (hnb : nb ≤ 7) (hc : ∀ b t a, c2 b t = some a → a ≤ 2000) : ∀ n, n ≤ 128 → ∀ K a, eTab c2 O m nb n K = some a → a ≤ 2000 * K := by
  intro n
  induction n with
  | zero => intro _ K a h; cases h
  | succ n ih =>
    intro hn K a h
    have h : (if K = n then eNew c2 (eTab c2 O m nb n) O m nb n else eTab c2 O m nb n K) = some a := h
    split at h
    · next e =>
      subst e
      unfold eNew at h
      split at h
      · cases h; exact Nat.zero_le _
      · split at h
        · exact eCellF_le (by omega) (fun K' _ a ha => ih (by omega) K' a ha) (fun b a ha => hc b _ a ha) nb 0 none (by omega) (fun a ha => by cases ha) a h
        · cases h
    · exact ih (by omega) K a h
theorem eTab_lt {c2 : Nat → Nat → Option Nat} {O m nb K : Nat} : ∀ n, K < n → eTab c2 O m nb n K = eTab c2 O m nb (K + 1) K := by
  intro n h
  obtain ⟨k, rfl⟩ : ∃ k, n = K + 1 + k := ⟨n - K - 1, by omega⟩
  induction k with
  | zero => rfl
  | succ k ih =>
    show (if K = K + 1 + k then _ else eTab c2 O m nb (K + 1 + k) K) = _
    rw [if_neg (by omega), ih (by omega)]
section S29
variable {l : Launch} {D : va_G} {cy : Nat → ClassId} {ad : Nat → Nat → Nat} {G d : Nat}
theorem c_X9_crewCost (hG : 30 ≤ G) (hd : 2 ≤ d) (M : wS) {nb nt K O m2 : Nat} (hnb : M.1 0 0 11 = nI nb) (hn7 : nb ≤ 7) (hnt : M.1 0 0 12 = nI nt) (ht7 : nt ≤ 7) (hK : K < 128) (hO : O < 2 ^ nt) (hO7 : O < 128) (hm : m2 = pc7 O) {c2 : Nat → Nat → Option Nat} {T : Nat → Option Nat} (hT : ∀ K', K' < K → eP (T K') (M.1 21 0 K')) (hTb : ∀ K', K' < K → ∀ a, T K' = some a → a ≤ 2000 * K') (hc : ∀ b t, b < nb → t < nt → O.testBit t = true → eP (c2 b t) (M.1 23 0 (7 * b + t))) (hcb : ∀ b t a, c2 b t = some a → a ≤ 2000) : Ctr l D cy ad G d yX9_crewCost cX9_crewCost 10 (some .int) [.ref (ad 0 0), .int (nI K), .int (nI O), .int (nI m2)] M (rI fun x M' => M' = M ∧ eP (eNew c2 T O m2 nb K) x) := by
  obtain ⟨p1, p2⟩ := pc7_lt K hK
  have p3 := (pc7_lt O hO7).1
  refine Ctr.of (lv0 := [(0, _), (1, _), (2, _), (3, _)]) (by decide) (Nat.le_of_ble_eq_true rfl) rfl ?_
  intro p e s m args below meth c C hr hlk _
  have C : CX p s m args c cX9_crewCost 10 "CostsAge" D cy ad G (wA ad G) (Rm d) d 0 0 := C
  refine V_iload_n (pc := 0) C 1 dX9_crewCost_0 rfl rfl ?_
  refine call_X9_265 (pc := 1) C (c_J6_bitCount (d := d - 1) M hK) (by omega) (Nat.le_of_ble_eq_true rfl) dX9_crewCost_1 (fun x_1 M_1 h_1 => ?_)
  obtain ⟨e_1, rfl⟩ := h_1
  have e_1 := e_1.symm
  subst e_1
  refine Vs_istore (lv' := [(0, _), (1, _), (2, _), (3, _), (4, _)]) (pc := 4) C dX9_crewCost_4 (by decide) rfl rfl ?_
  refine V_iload (pc := 6) C 4 dX9_crewCost_6 rfl ?_
  refine V_if_ne (tgt := 13) (pc := 8) C dX9_crewCost_8 (by decide) (fun h_8 => ?_) (fun h_8 => ?_)
  · have hz : ¬ K = 0 := fun z => h_8 (by rw [p2.mpr z]; decide)
    refine V_iload (pc := 13) C 4 dX9_crewCost_13 rfl ?_
    refine V_iload_n (pc := 15) C 3 dX9_crewCost_15 rfl rfl ?_
    refine V_icmp_le (tgt := 23) (pc := 16) C dX9_crewCost_16 (by decide) (fun h_16 => ?_) (fun h_16 => ?_)
    · rw [nI_leI (by omega) (by omega)] at h_16
      obtain ⟨q1, q2, q3⟩ := nr_ok ht7 hO hO7 (n := pc7 K) (Nat.pos_of_ne_zero (fun z => hz (p2.mp z))) (by omega) p1
      refine V_aload_n (pc := 23) C 0 dX9_crewCost_23 rfl rfl ?_
      refine V_iload_n (pc := 24) C 2 dX9_crewCost_24 rfl rfl ?_
      refine V_iload (pc := 25) C 4 dX9_crewCost_25 rfl ?_
      refine call_X9_276 (pc := 27) C (c_X9_nthOf (d := d - 1) hG (by omega) M hnt ht7 hO7 (n0 := pc7 K) (by omega)) (by omega) (wg hG (by decide) (by decide)) (Nat.le_of_ble_eq_true rfl) dX9_crewCost_27 (fun x_27 M_27 h_27 => ?_)
      obtain ⟨e_27, rfl⟩ := h_27
      have e_27 := e_27.symm
      subst e_27
      rw [q1]
      refine Vs_istore (lv' := [(0, _), (1, _), (2, _), (3, _), (4, _), (5, _)]) (pc := 30) C dX9_crewCost_30 (by decide) rfl rfl ?_
      refine V_bipush (v := -5) (pc := 32) C dX9_crewCost_32 (by decide) ?_
      refine Vs_istore (lv' := [(0, _), (1, _), (2, _), (3, _), (4, _), (5, _), (6, _)]) (pc := 34) C dX9_crewCost_34 (by decide) rfl rfl ?_
      refine V_iconst (v := 0) (pc := 36) C dX9_crewCost_36 (by decide) ?_
      refine Vs_istore (lv' := [(0, _), (1, _), (2, _), (3, _), (4, _), (5, _), (6, _), (7, _)]) (pc := 37) C dX9_crewCost_37 (by decide) rfl rfl ?_
      refine lp_X9_crewCost C hr hlk hG (by omega) M hnb hn7 hK (t := bitAt O (pc7 K)) (by omega) (kc := fun b => c2 b (bitAt O (pc7 K))) hT hTb (fun b hb => hc b _ hb q2 q3) (fun b a ha => hcb b _ a ha) _ _ _ _ nb 0 none _ (by omega) (by decide : (-5 : Int32) < 0) (fun a ha => by cases ha) (fun z hz2 => ⟨rfl, ?_⟩)
      rw [show eNew c2 T O m2 nb K = eCellF (fun b => c2 b (bitAt O (pc7 K))) T K 0 nb none from by unfold eNew; rw [if_neg hz, if_pos h_16]]
      exact hz2
    · rw [nI_leI (by omega) (by omega)] at h_16
      have hnone : eP (eNew c2 T O m2 nb K) (-5) := by
        rw [show eNew c2 T O m2 nb K = none from by unfold eNew; rw [if_neg hz, if_neg h_16]]
        exact (by decide : (-5 : Int32) < 0)
      refine V_iconst (v := -1) (pc := 19) C dX9_crewCost_19 (by decide) ?_
      refine V_goto (tgt := 30) (pc := 20) C dX9_crewCost_20 (by decide) ?_
      refine Vs_istore (lv' := [(0, _), (1, _), (2, _), (3, _), (4, _), (5, _)]) (pc := 30) C dX9_crewCost_30 (by decide) rfl rfl ?_
      refine V_bipush (v := -5) (pc := 32) C dX9_crewCost_32 (by decide) ?_
      refine Vs_istore (lv' := [(0, _), (1, _), (2, _), (3, _), (4, _), (5, _), (6, _)]) (pc := 34) C dX9_crewCost_34 (by decide) rfl rfl ?_
      refine V_iconst (v := 0) (pc := 36) C dX9_crewCost_36 (by decide) ?_
      refine Vs_istore (lv' := [(0, _), (1, _), (2, _), (3, _), (4, _), (5, _), (6, _), (7, _)]) (pc := 37) C dX9_crewCost_37 (by decide) rfl rfl ?_
      refine V_iload (pc := 39) C 7 dX9_crewCost_39 rfl ?_
      refine V_aload_n (pc := 41) C 0 dX9_crewCost_41 rfl rfl ?_
      refine get_X9_106 (pc := 42) C (wg hG (by decide) (by decide)) dX9_crewCost_42 ?_
      refine V_icmp_ge (tgt := 137) (pc := 45) C dX9_crewCost_45 (by decide) (fun h_45 => ?_) (fun h_45 => ?_)
      · refine V_iload (pc := 137) C 6 dX9_crewCost_137 rfl ?_
        refine V_iret (pc := 139) C hr hlk dX9_crewCost_139 ⟨_, rfl, ?_⟩
        exact ⟨rfl, hnone⟩
      · refine V_iload (pc := 48) C 5 dX9_crewCost_48 rfl ?_
        refine V_if_lt (tgt := 137) (pc := 50) C dX9_crewCost_50 (by decide) (fun _ => ?_) (fun h => absurd (by decide) h)
        refine V_iload (pc := 137) C 6 dX9_crewCost_137 rfl ?_
        refine V_iret (pc := 139) C hr hlk dX9_crewCost_139 ⟨_, rfl, ?_⟩
        exact ⟨rfl, hnone⟩
  · have hz : K = 0 := p2.mp ((nI_eq (by omega) (by decide)).mp (h_8.trans (by decide : (0 : Int32) = nI 0)))
    refine V_iconst (v := 0) (pc := 11) C dX9_crewCost_11 (by decide) ?_
    refine V_iret (pc := 12) C hr hlk dX9_crewCost_12 ⟨_, rfl, ?_⟩
    refine ⟨rfl, ?_⟩
    rw [show eNew c2 T O m2 nb K = some 0 from if_pos hz]
    exact (by decide : (0 : Int32) = nI 0)
end S29
