/-! ALL: the least cost of a set by heaps, over Nat -/
def lowb (S : Nat) : Nat := S &&& (128 - S)
def hsL (S : Nat) : List Nat := (List.range (S + 1)).filter (fun h => h &&& S == h && (h &&& lowb S != 0))
def plBetter (cur : Option (Nat × Nat × Nat)) (c m h : Nat) : Option (Nat × Nat × Nat) := match cur with
  | none => some (c, m, h)
  | some q => if c < q.1 ∨ (c = q.1 ∧ m < q.2.1) then some (c, m, h) else some q
def plTry (pr : Nat → Option Nat) (T : Nat → Option (Nat × Nat × Nat)) (S h : Nat) (cur : Option (Nat × Nat × Nat)) : Option (Nat × Nat × Nat) := match pr h, T (S ^^^ h) with
  | some p, some q => plBetter cur (p + q.1) (1 + q.2.1) h
  | _, _ => cur
def plCell (pr : Nat → Option Nat) (T : Nat → Option (Nat × Nat × Nat)) (S : Nat) : Option (Nat × Nat × Nat) := (hsL S).foldl (fun cur h => plTry pr T S h cur) none
def plTab (pr : Nat → Option Nat) : Nat → Nat → Option (Nat × Nat × Nat)
  | 0 => fun _ => none
  | n + 1 => fun S => if S = n then (if n = 0 then some (0, 0, 0) else plCell pr (plTab pr n) n) else plTab pr n S
def eP (o : Option Nat) (x : Int32) : Prop := match o with
  | none => x < 0
  | some p => x = nI p
def eT (o : Option (Nat × Nat × Nat)) (t m f : Int32) : Prop := match o with
  | none => t < 0
  | some q => t = nI q.1 ∧ m = nI q.2.1 ∧ f = nI q.2.2
def plB (o : Option (Nat × Nat × Nat)) (S : Nat) : Prop := ∀ q, o = some q → q.1 ≤ 2000 * q.2.1 ∧ q.2.1 ≤ S
theorem hsL_mem {S h : Nat} : h ∈ hsL S ↔ h ≤ S ∧ h &&& S = h ∧ ¬ h &&& lowb S = 0 := by
  simp [hsL, Nat.lt_succ_iff]
def hsChk (S h : Nat) : Bool := !(h &&& S == h) || (h &&& lowb S == 0) || (Nat.ble 1 h && ((S ^^^ h) + h == S) && ((S ^^^ h) &&& S == S ^^^ h))
theorem hs_chk : ∀ S, S < 128 → ∀ h, h < 128 → hsChk S h = true := by decide +kernel
theorem hs_facts (S : Nat) (hS : S < 128) (h : Nat) (hh : h < 128) (h2 : h &&& S = h) (h3 : ¬ h &&& lowb S = 0) : 1 ≤ h ∧ (S ^^^ h) + h = S ∧ (S ^^^ h) &&& S = S ^^^ h := by
  have key := hs_chk S hS h hh
  simp only [hsChk, h2, beq_self_eq_true, Bool.not_true, Bool.false_or, Bool.or_eq_true, beq_iff_eq, Bool.and_eq_true, h3, false_or] at key
  exact ⟨Nat.le_of_ble_eq_true key.1.1, key.1.2, key.2⟩
theorem plB_try {pr : Nat → Option Nat} {T : Nat → Option (Nat × Nat × Nat)} {S h : Nat} {cur : Option (Nat × Nat × Nat)} (hpr : ∀ p, pr h = some p → p ≤ 2000) (hT : plB (T (S ^^^ h)) (S ^^^ h)) (hS : S < 128) (hh : h ∈ hsL S) (hc : plB cur S) : plB (plTry pr T S h cur) S := by
  obtain ⟨h1, h2, h3⟩ := hsL_mem.mp hh
  obtain ⟨f1, f2, f3⟩ := hs_facts S hS h (by omega) h2 h3
  unfold plTry
  cases hp : pr h with
  | none => exact hc
  | some p =>
    cases ht : T (S ^^^ h) with
    | none => exact hc
    | some q =>
      obtain ⟨b1, b2⟩ := hT q ht
      have b3 := hpr p hp
      have key : plB (some (p + q.1, 1 + q.2.1, h)) S := by
        intro z hz
        cases hz
        exact ⟨by show p + q.1 ≤ 2000 * (1 + q.2.1); omega, by show 1 + q.2.1 ≤ S; omega⟩
      show plB (plBetter cur (p + q.1) (1 + q.2.1) h) S
      cases cur with
      | none => exact key
      | some w =>
        unfold plBetter
        simp only []
        split
        · exact key
        · exact hc
theorem plB_fold {pr : Nat → Option Nat} {T : Nat → Option (Nat × Nat × Nat)} {S : Nat} (hpr : ∀ h p, pr h = some p → p ≤ 2000) (hT : ∀ S', S' < S → plB (T S') S') (hS : S < 128) : ∀ (L : List Nat) (cur : Option (Nat × Nat × Nat)), (∀ h ∈ L, h ∈ hsL S) → plB cur S → plB (L.foldl (fun cur h => plTry pr T S h cur) cur) S := by
  intro L
  induction L with
  | nil => intro cur _ hc; exact hc
  | cons h L ih =>
    intro cur hL hc
    have hh := hL h List.mem_cons_self
    obtain ⟨h1, h2, h3⟩ := hsL_mem.mp hh
    obtain ⟨f1, f2, f3⟩ := hs_facts S hS h (by omega) h2 h3
    exact ih _ (fun x hx => hL x (List.mem_cons_of_mem _ hx)) (plB_try (hpr h) (hT _ (by omega)) hS hh hc)
theorem plTab_B {pr : Nat → Option Nat} (hpr : ∀ h p, pr h = some p → p ≤ 2000) : ∀ n, n ≤ 128 → ∀ S, plB (plTab pr n S) S := by
  intro n
  induction n with
  | zero => intro _ S q hq; cases hq
  | succ n ih =>
    intro hn S
    show plB (if S = n then _ else _) S
    split
    · next e =>
      subst e
      split
      · intro q hq
        cases hq
        exact ⟨by decide, Nat.zero_le _⟩
      · exact plB_fold hpr (fun S' _ => ih (by omega) S') (by omega) _ _ (fun h hh => hh) (fun q hq => by cases hq)
    · exact ih (by omega) S
theorem plTab_le {pr : Nat → Option Nat} {S : Nat} : ∀ k, plTab pr (S + 1 + k) S = plTab pr (S + 1) S := by
  intro k
  induction k with
  | zero => rfl
  | succ k ih =>
    show (if S = S + 1 + k then _ else plTab pr (S + 1 + k) S) = _
    rw [if_neg (by omega), ih]
section S22
variable {l : Launch} {D : va_G} {cy : Nat → ClassId} {ad : Nat → Nat → Nat} {G d : Nat}
def kPut (M : wS) (S : Nat) (t m f : Int32) : wS := mset (mset (mset M 18 0 S t) 19 0 S m) 20 0 S f
theorem c_X2_tryHeap (hG : 30 ≤ G) (M : wS) {pr : Nat → Option Nat} {T : Nat → Option (Nat × Nat × Nat)} {S h : Nat} {cur : Option (Nat × Nat × Nat)} (hS : S < 128) (hh : h ∈ hsL S) (hpr : ∀ p, pr h = some p → p ≤ 2000) (hTb : plB (T (S ^^^ h)) (S ^^^ h)) (hcb : plB cur S) (e1 : eP (pr h) (M.1 17 0 h)) (e2 : eT (T (S ^^^ h)) (M.1 18 0 (S ^^^ h)) (M.1 19 0 (S ^^^ h)) (M.1 20 0 (S ^^^ h))) (e3 : eT cur (M.1 18 0 S) (M.1 19 0 S) (M.1 20 0 S)) : Ctr l D cy ad G d yX2_tryHeap cX2_tryHeap 6 none [.ref (ad 16 0), .int (nI S), .int (nI h)] M (rV fun M' => (∃ t m f, M' = kPut M S t m f) ∧ eT (plTry pr T S h cur) (M'.1 18 0 S) (M'.1 19 0 S) (M'.1 20 0 S)) := by
  obtain ⟨g1, g2, g3⟩ := hsL_mem.mp hh
  obtain ⟨f1, f2, f3⟩ := hs_facts S hS h (by omega) g2 g3
  have hx : nI S ^^^ nI h = nI (S ^^^ h) := by
    have key : ∀ a, a < 128 → ∀ b, b < 128 → nI a ^^^ nI b = nI (a ^^^ b) := by decide +kernel
    exact key S hS h (by omega)
  have hid : M = kPut M S (M.1 18 0 S) (M.1 19 0 S) (M.1 20 0 S) := by
    refine Prod.ext ?_ rfl
    funext g i k
    simp only [kPut, mset_at]
    repeat' split
    all_goals first | rfl | (rename_i z; obtain ⟨rfl, rfl, rfl⟩ := z; rfl)
  refine Ctr.of (lv0 := [(0, _), (1, _), (2, _)]) (by decide) (Nat.le_of_ble_eq_true rfl) rfl ?_
  intro p e s m args below meth c C hr hlk _
  have C : CX p s m args c cX2_tryHeap 6 "CostsAge$Plan" D cy ad G (wA ad G) (Rm d) d 0 0 := C
  refine V_iload_n (pc := 0) C 1 dX2_tryHeap_0 rfl rfl ?_
  refine V_iload_n (pc := 1) C 2 dX2_tryHeap_1 rfl rfl ?_
  skip
  refine V_ixor (pc := 2) C dX2_tryHeap_2 ?_
  rw [hx]
  refine Vs_istore_n (lv' := [(0, _), (1, _), (2, _), (3, _)]) (pc := 3) C dX2_tryHeap_3 rfl (by decide) rfl rfl ?_
  refine V_aload_n (pc := 4) C 0 dX2_tryHeap_4 rfl rfl ?_
  refine get_X2_9 (pc := 5) C (wg hG (by decide) (by decide)) dX2_tryHeap_5 ?_
  refine V_iload_n (pc := 8) C 2 dX2_tryHeap_8 rfl rfl ?_
  refine V_iald (pc := 9) C (h) rfl (by omega) (Nat.le_of_ble_eq_true rfl) (wg hG (by decide) (by decide)) wF_17 dX2_tryHeap_9 ?_
  refine V_if_lt (tgt := 22) (pc := 10) C dX2_tryHeap_10 (by decide) (fun h_10 => ?_) (fun h_10 => ?_)
  · refine V_vret (pc := 22) C hr hlk dX2_tryHeap_22 ⟨rfl, ?_⟩
    refine ⟨⟨_, _, _, hid⟩, ?_⟩
    have : plTry pr T S h cur = cur := by
      unfold plTry
      cases hp : pr h with
      | none => rfl
      | some p => rw [hp] at e1; exact absurd h_10 (by rw [show M.1 17 0 h = nI p from e1]; exact nI_pos (by have := hpr p hp; omega))
    rw [this]
    exact e3
  · have p1 : ∃ p, pr h = some p := by
      cases hp : pr h with
      | none => rw [hp] at e1; exact absurd e1 h_10
      | some p => exact ⟨p, rfl⟩
    obtain ⟨p, hp⟩ := p1
    have b3 := hpr p hp
    rw [hp] at e1
    have e1 : M.1 17 0 h = nI p := e1
    refine V_aload_n (pc := 13) C 0 dX2_tryHeap_13 rfl rfl ?_
    refine get_X2_15 (pc := 14) C (wg hG (by decide) (by decide)) dX2_tryHeap_14 ?_
    refine V_iload_n (pc := 17) C 3 dX2_tryHeap_17 rfl rfl ?_
    refine V_iald (pc := 18) C (S ^^^ h) rfl (by omega) (Nat.le_of_ble_eq_true rfl) (wg hG (by decide) (by decide)) wF_18 dX2_tryHeap_18 ?_
    refine V_if_ge (tgt := 23) (pc := 19) C dX2_tryHeap_19 (by decide) (fun h_19 => ?_) (fun h_19 => ?_)
    · have p2 : ∃ q, T (S ^^^ h) = some q := by
        cases ht : T (S ^^^ h) with
        | none => rw [ht] at e2; exact absurd e2 (Int32.not_lt.mpr h_19)
        | some q => exact ⟨q, rfl⟩
      obtain ⟨q, hq⟩ := p2
      obtain ⟨b1, b2⟩ := hTb q hq
      rw [hq] at e2
      obtain ⟨e21, e22, e23⟩ : M.1 18 0 (S ^^^ h) = nI q.1 ∧ M.1 19 0 (S ^^^ h) = nI q.2.1 ∧ M.1 20 0 (S ^^^ h) = nI q.2.2 := e2
      have hty : plTry pr T S h cur = plBetter cur (p + q.1) (1 + q.2.1) h := by unfold plTry; rw [hp, hq]
      rw [hty]
      refine V_aload_n (pc := 23) C 0 dX2_tryHeap_23 rfl rfl ?_
      refine get_X2_9 (pc := 24) C (wg hG (by decide) (by decide)) dX2_tryHeap_24 ?_
      refine V_iload_n (pc := 27) C 2 dX2_tryHeap_27 rfl rfl ?_
      refine V_iald (pc := 28) C (h) rfl (by omega) (Nat.le_of_ble_eq_true rfl) (wg hG (by decide) (by decide)) wF_17 dX2_tryHeap_28 ?_
      refine V_aload_n (pc := 29) C 0 dX2_tryHeap_29 rfl rfl ?_
      refine get_X2_15 (pc := 30) C (wg hG (by decide) (by decide)) dX2_tryHeap_30 ?_
      refine V_iload_n (pc := 33) C 3 dX2_tryHeap_33 rfl rfl ?_
      refine V_iald (pc := 34) C (S ^^^ h) rfl (by omega) (Nat.le_of_ble_eq_true rfl) (wg hG (by decide) (by decide)) wF_18 dX2_tryHeap_34 ?_
      refine V_iadd (pc := 35) C dX2_tryHeap_35 ?_
      rw [e1, e21, nI_add]
      refine Vs_istore (lv' := [(0, _), (1, _), (2, _), (3, _), (4, _)]) (pc := 36) C dX2_tryHeap_36 (by decide) rfl rfl ?_
      refine V_iconst (v := 1) (pc := 38) C dX2_tryHeap_38 (by decide) ?_
      refine V_aload_n (pc := 39) C 0 dX2_tryHeap_39 rfl rfl ?_
      refine get_X2_18 (pc := 40) C (wg hG (by decide) (by decide)) dX2_tryHeap_40 ?_
      refine V_iload_n (pc := 43) C 3 dX2_tryHeap_43 rfl rfl ?_
      refine V_iald (pc := 44) C (S ^^^ h) rfl (by omega) (Nat.le_of_ble_eq_true rfl) (wg hG (by decide) (by decide)) wF_19 dX2_tryHeap_44 ?_
      refine V_iadd (pc := 45) C dX2_tryHeap_45 ?_
      rw [e22, show (1 : Int32) = nI 1 from by decide, nI_add]
      refine Vs_istore (lv' := [(0, _), (1, _), (2, _), (3, _), (4, _), (5, _)]) (pc := 46) C dX2_tryHeap_46 (by decide) rfl rfl ?_
      refine V_aload_n (pc := 48) C 0 dX2_tryHeap_48 rfl rfl ?_
      refine get_X2_15 (pc := 49) C (wg hG (by decide) (by decide)) dX2_tryHeap_49 ?_
      refine V_iload_n (pc := 52) C 1 dX2_tryHeap_52 rfl rfl ?_
      refine V_iald (pc := 53) C (S) rfl hS (Nat.le_of_ble_eq_true rfl) (wg hG (by decide) (by decide)) wF_18 dX2_tryHeap_53 ?_
      refine V_if_lt (tgt := 90) (pc := 54) C dX2_tryHeap_54 (by decide) (fun h_54 => ?_) (fun h_54 => ?_)
      · have hc : cur = none := by
          cases hcur : cur with
          | none => rfl
          | some w => rw [hcur] at e3; exact absurd h_54 (by rw [show M.1 18 0 S = nI w.1 from e3.1]; exact nI_pos (by have := hcb w hcur; omega))
        subst hc
        refine V_aload_n (pc := 90) C 0 dX2_tryHeap_90 rfl rfl ?_
        refine get_X2_15 (pc := 91) C (wg hG (by decide) (by decide)) dX2_tryHeap_91 ?_
        refine V_iload_n (pc := 94) C 1 dX2_tryHeap_94 rfl rfl ?_
        refine V_iload (pc := 95) C 4 dX2_tryHeap_95 rfl ?_
        refine V_iast (pc := 97) C (S) rfl hS (Nat.le_of_ble_eq_true rfl) (wg hG (by decide) (by decide)) (fun _ => wF_18) dX2_tryHeap_97 ?_
        refine V_aload_n (pc := 98) C 0 dX2_tryHeap_98 rfl rfl ?_
        refine get_X2_18 (pc := 99) C (wg hG (by decide) (by decide)) dX2_tryHeap_99 ?_
        refine V_iload_n (pc := 102) C 1 dX2_tryHeap_102 rfl rfl ?_
        refine V_iload (pc := 103) C 5 dX2_tryHeap_103 rfl ?_
        refine V_iast (pc := 105) C (S) rfl hS (Nat.le_of_ble_eq_true rfl) (wg hG (by decide) (by decide)) (fun _ => wF_19) dX2_tryHeap_105 ?_
        refine V_aload_n (pc := 106) C 0 dX2_tryHeap_106 rfl rfl ?_
        refine get_X2_21 (pc := 107) C (wg hG (by decide) (by decide)) dX2_tryHeap_107 ?_
        refine V_iload_n (pc := 110) C 1 dX2_tryHeap_110 rfl rfl ?_
        refine V_iload_n (pc := 111) C 2 dX2_tryHeap_111 rfl rfl ?_
        refine V_iast (pc := 112) C (S) rfl hS (Nat.le_of_ble_eq_true rfl) (wg hG (by decide) (by decide)) (fun _ => wF_20) dX2_tryHeap_112 ?_
        refine V_vret (pc := 113) C hr hlk dX2_tryHeap_113 ⟨rfl, ?_⟩
        refine ⟨⟨_, _, _, rfl⟩, ?_⟩
        simp [plBetter, eT, mset_at]
      · have hc : ∃ w, cur = some w := by
          cases hcur : cur with
          | none => rw [hcur] at e3; exact absurd e3 h_54
          | some w => exact ⟨w, rfl⟩
        obtain ⟨w, rfl⟩ := hc
        obtain ⟨c1, c2⟩ := hcb w rfl
        obtain ⟨e31, e32, e33⟩ : M.1 18 0 S = nI w.1 ∧ M.1 19 0 S = nI w.2.1 ∧ M.1 20 0 S = nI w.2.2 := e3
        refine V_iload (pc := 57) C 4 dX2_tryHeap_57 rfl ?_
        refine V_aload_n (pc := 59) C 0 dX2_tryHeap_59 rfl rfl ?_
        refine get_X2_15 (pc := 60) C (wg hG (by decide) (by decide)) dX2_tryHeap_60 ?_
        refine V_iload_n (pc := 63) C 1 dX2_tryHeap_63 rfl rfl ?_
        refine V_iald (pc := 64) C (S) rfl hS (Nat.le_of_ble_eq_true rfl) (wg hG (by decide) (by decide)) wF_18 dX2_tryHeap_64 ?_
        refine V_icmp_lt (tgt := 90) (pc := 65) C dX2_tryHeap_65 (by decide) (fun h_65 => ?_) (fun h_65 => ?_)
        · rw [e31, nI_ltI (by omega) (by omega)] at h_65
          refine V_aload_n (pc := 90) C 0 dX2_tryHeap_90 rfl rfl ?_
          refine get_X2_15 (pc := 91) C (wg hG (by decide) (by decide)) dX2_tryHeap_91 ?_
          refine V_iload_n (pc := 94) C 1 dX2_tryHeap_94 rfl rfl ?_
          refine V_iload (pc := 95) C 4 dX2_tryHeap_95 rfl ?_
          refine V_iast (pc := 97) C (S) rfl hS (Nat.le_of_ble_eq_true rfl) (wg hG (by decide) (by decide)) (fun _ => wF_18) dX2_tryHeap_97 ?_
          refine V_aload_n (pc := 98) C 0 dX2_tryHeap_98 rfl rfl ?_
          refine get_X2_18 (pc := 99) C (wg hG (by decide) (by decide)) dX2_tryHeap_99 ?_
          refine V_iload_n (pc := 102) C 1 dX2_tryHeap_102 rfl rfl ?_
          refine V_iload (pc := 103) C 5 dX2_tryHeap_103 rfl ?_
          refine V_iast (pc := 105) C (S) rfl hS (Nat.le_of_ble_eq_true rfl) (wg hG (by decide) (by decide)) (fun _ => wF_19) dX2_tryHeap_105 ?_
          refine V_aload_n (pc := 106) C 0 dX2_tryHeap_106 rfl rfl ?_
          refine get_X2_21 (pc := 107) C (wg hG (by decide) (by decide)) dX2_tryHeap_107 ?_
          refine V_iload_n (pc := 110) C 1 dX2_tryHeap_110 rfl rfl ?_
          refine V_iload_n (pc := 111) C 2 dX2_tryHeap_111 rfl rfl ?_
          refine V_iast (pc := 112) C (S) rfl hS (Nat.le_of_ble_eq_true rfl) (wg hG (by decide) (by decide)) (fun _ => wF_20) dX2_tryHeap_112 ?_
          refine V_vret (pc := 113) C hr hlk dX2_tryHeap_113 ⟨rfl, ?_⟩
          refine ⟨⟨_, _, _, rfl⟩, ?_⟩
          have hz : p + q.1 < w.1 ∨ (p + q.1 = w.1 ∧ 1 + q.2.1 < w.2.1) := Or.inl h_65
          simp only [plBetter, if_pos hz]
          simp [eT, mset_at]
        · rw [e31, nI_ltI (by omega) (by omega)] at h_65
          refine V_iload (pc := 68) C 4 dX2_tryHeap_68 rfl ?_
          refine V_aload_n (pc := 70) C 0 dX2_tryHeap_70 rfl rfl ?_
          refine get_X2_15 (pc := 71) C (wg hG (by decide) (by decide)) dX2_tryHeap_71 ?_
          refine V_iload_n (pc := 74) C 1 dX2_tryHeap_74 rfl rfl ?_
          refine V_iald (pc := 75) C (S) rfl hS (Nat.le_of_ble_eq_true rfl) (wg hG (by decide) (by decide)) wF_18 dX2_tryHeap_75 ?_
          refine V_icmp_ne (tgt := 113) (pc := 76) C dX2_tryHeap_76 (by decide) (fun h_76 => ?_) (fun h_76 => ?_)
          · rw [e31, nI_eq (by omega) (by omega)] at h_76
            refine V_vret (pc := 113) C hr hlk dX2_tryHeap_113 ⟨rfl, ?_⟩
            refine ⟨⟨_, _, _, hid⟩, ?_⟩
            have hz : ¬ (p + q.1 < w.1 ∨ (p + q.1 = w.1 ∧ 1 + q.2.1 < w.2.1)) := by omega
            simp only [plBetter, if_neg hz]
            exact ⟨e31, e32, e33⟩
          · rw [e31, nI_eq (by omega) (by omega)] at h_76
            refine V_iload (pc := 79) C 5 dX2_tryHeap_79 rfl ?_
            refine V_aload_n (pc := 81) C 0 dX2_tryHeap_81 rfl rfl ?_
            refine get_X2_18 (pc := 82) C (wg hG (by decide) (by decide)) dX2_tryHeap_82 ?_
            refine V_iload_n (pc := 85) C 1 dX2_tryHeap_85 rfl rfl ?_
            refine V_iald (pc := 86) C (S) rfl hS (Nat.le_of_ble_eq_true rfl) (wg hG (by decide) (by decide)) wF_19 dX2_tryHeap_86 ?_
            refine V_icmp_ge (tgt := 113) (pc := 87) C dX2_tryHeap_87 (by decide) (fun h_87 => ?_) (fun h_87 => ?_)
            · rw [e32, nI_leI (by omega) (by omega)] at h_87
              refine V_vret (pc := 113) C hr hlk dX2_tryHeap_113 ⟨rfl, ?_⟩
              refine ⟨⟨_, _, _, hid⟩, ?_⟩
              have hz : ¬ (p + q.1 < w.1 ∨ (p + q.1 = w.1 ∧ 1 + q.2.1 < w.2.1)) := by omega
              simp only [plBetter, if_neg hz]
              exact ⟨e31, e32, e33⟩
            · rw [e32, nI_leI (by omega) (by omega)] at h_87
              refine V_aload_n (pc := 90) C 0 dX2_tryHeap_90 rfl rfl ?_
              refine get_X2_15 (pc := 91) C (wg hG (by decide) (by decide)) dX2_tryHeap_91 ?_
              refine V_iload_n (pc := 94) C 1 dX2_tryHeap_94 rfl rfl ?_
              refine V_iload (pc := 95) C 4 dX2_tryHeap_95 rfl ?_
              refine V_iast (pc := 97) C (S) rfl hS (Nat.le_of_ble_eq_true rfl) (wg hG (by decide) (by decide)) (fun _ => wF_18) dX2_tryHeap_97 ?_
              refine V_aload_n (pc := 98) C 0 dX2_tryHeap_98 rfl rfl ?_
              refine get_X2_18 (pc := 99) C (wg hG (by decide) (by decide)) dX2_tryHeap_99 ?_
              refine V_iload_n (pc := 102) C 1 dX2_tryHeap_102 rfl rfl ?_
              refine V_iload (pc := 103) C 5 dX2_tryHeap_103 rfl ?_
              refine V_iast (pc := 105) C (S) rfl hS (Nat.le_of_ble_eq_true rfl) (wg hG (by decide) (by decide)) (fun _ => wF_19) dX2_tryHeap_105 ?_
              refine V_aload_n (pc := 106) C 0 dX2_tryHeap_106 rfl rfl ?_
              refine get_X2_21 (pc := 107) C (wg hG (by decide) (by decide)) dX2_tryHeap_107 ?_
              refine V_iload_n (pc := 110) C 1 dX2_tryHeap_110 rfl rfl ?_
              refine V_iload_n (pc := 111) C 2 dX2_tryHeap_111 rfl rfl ?_
              refine V_iast (pc := 112) C (S) rfl hS (Nat.le_of_ble_eq_true rfl) (wg hG (by decide) (by decide)) (fun _ => wF_20) dX2_tryHeap_112 ?_
              refine V_vret (pc := 113) C hr hlk dX2_tryHeap_113 ⟨rfl, ?_⟩
              refine ⟨⟨_, _, _, rfl⟩, ?_⟩
              have hz : p + q.1 < w.1 ∨ (p + q.1 = w.1 ∧ 1 + q.2.1 < w.2.1) := by omega
              simp only [plBetter, if_pos hz]
              simp [eT, mset_at]
    · refine V_vret (pc := 22) C hr hlk dX2_tryHeap_22 ⟨rfl, ?_⟩
      refine ⟨⟨_, _, _, hid⟩, ?_⟩
      have : plTry pr T S h cur = cur := by
        unfold plTry
        rw [hp]
        cases ht : T (S ^^^ h) with
        | none => rfl
        | some q => rw [ht] at e2; exact absurd (by rw [show M.1 18 0 (S ^^^ h) = nI q.1 from e2.1]; exact nI_pos' (by have := hTb q ht; omega)) h_19
      rw [this]
      exact e3
end S22
