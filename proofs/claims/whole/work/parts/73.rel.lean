/-! THE RELATION: the class's memory M0, the reference's in M -/
def pC (M0 M : wS) (nb nt tc r : Nat) : Prop := (M0.1 0 0 11 = nI nb ∧ nb ≤ 7) ∧ (M0.1 0 0 12 = nI nt ∧ nt ≤ 7) ∧ (M0.1 0 0 13 = nI tc ∧ r < tc ∧ tc ≤ 6) ∧ M.1 30 0 3 = nI tc
def pB (M0 : wS) (nt bo r : Nat) : Prop := (M0.1 26 0 3 = nI bo ∧ bo < 2 ^ nt) ∧ (0 ≤ M0.1 26 0 4 ∧ M0.1 26 0 4 ≤ 51) ∧ (0 ≤ M0.1 26 0 5 ∧ M0.1 26 0 5 ≤ 99) ∧ M0.1 26 0 8 = nI r
def pY (M0 M : wS) : Prop := M.1 30 0 19 = M0.1 26 0 5 ∧ M.1 30 0 20 = M0.1 26 0 6
def pT (M0 M : wS) (z : Nat) : Prop := M0.1 11 0 1 = nI z ∧ z ≤ 160 ∧ M.1 30 0 6 = nI z ∧ ∀ k, k < z → M.1 33 0 k = M0.1 12 0 k ∧ 0 ≤ M0.1 12 0 k
def tX (M0 M : wS) (t : Nat) : Prop := ∃ e1 e2 e3, (M0.1 7 t 1 = nI e1 ∧ M0.1 7 t 2 = nI e2 ∧ M0.1 7 t 3 = nI e3) ∧ rT M0 M t e1 e2 e3
def pX (M0 M : wS) (tc : Nat) : Prop := ∀ t, t < tc → tX M0 M t
def pS (M0 M : wS) : Prop := ∀ k, k < 4 → rS1 M0 M k
def kK (M0 M : wS) (nb nt tc nbk ntk bk rk : Nat) : Prop := (nbk ≤ nb ∧ ntk ≤ nt ∧ rk < tc ∧ bk < 2 ^ ntk) ∧ (M0.1 26 1 9 = nI nbk ∧ M0.1 26 1 10 = nI ntk ∧ M0.1 26 1 3 &&& kMask ntk = nI bk ∧ M0.1 26 1 8 = nI rk) ∧ ((0 ≤ M0.1 26 1 4 ∧ M0.1 26 1 4 ≤ 51) ∧ (0 ≤ M0.1 26 1 5 ∧ M0.1 26 1 5 ≤ 99)) ∧
  (M.1 30 0 49 = nI nbk ∧ M.1 30 0 50 = nI ntk ∧ M.1 30 0 51 = nI bk ∧ M.1 30 0 52 = M0.1 26 1 4 ∧ M.1 30 0 53 = M0.1 26 1 5 ∧ M.1 30 0 54 = M0.1 26 1 6 ∧ M.1 30 0 55 = M0.1 26 1 7 ∧ M.1 30 0 56 = M0.1 26 1 8) ∧
  (∀ k, k < nbk → (M.1 49 0 k = M0.1 27 1 k ∧ M.1 50 0 k = M0.1 28 1 k) ∧ (0 ≤ M0.1 27 1 k ∧ M0.1 27 1 k ≤ 99) ∧ (0 ≤ M0.1 28 1 k ∧ M0.1 28 1 k ≤ 99)) ∧ ∀ k, k < ntk → M.1 51 0 k = M0.1 29 1 k
def pK (M0 M : wS) (nb nt tc : Nat) : Prop := (M0.1 0 0 10 = 0 ∧ M.1 30 0 49 = -1 ∧ M0.1 26 1 9 = 0 ∧ M0.1 26 1 10 = 0) ∨ (¬ M0.1 0 0 10 = 0 ∧ ∃ nbk ntk bk rk, kK M0 M nb nt tc nbk ntk bk rk)
def RR (M0 M : wS) (nb nt tc z bo r : Nat) : Prop := pC M0 M nb nt tc r ∧ pB M0 nt bo r ∧ IB M0 ∧ rA M0 M nb nt ∧ pY M0 M ∧ pT M0 M z ∧ pX M0 M tc ∧ pS M0 M ∧ pK M0 M nb nt tc ∧ IZ M0
/-! what each piece speaks of -/
theorem pC.fr {M0 M0' M M' : wS} {nb nt tc r : Nat} (h0 : ∀ g i k, g = 0 ∧ (k = 11 ∨ k = 12 ∨ k = 13) → M0'.1 g i k = M0.1 g i k) (h1 : ∀ g i k, g = 30 ∧ i = 0 ∧ k = 3 → M'.1 g i k = M.1 g i k) (h : pC M0 M nb nt tc r) : pC M0' M' nb nt tc r := by
  unfold pC at *
  rw [h0 0 0 11 (by omega), h0 0 0 12 (by omega), h0 0 0 13 (by omega), h1 30 0 3 (by omega)]
  exact h
theorem pB.fr {M0 M0' : wS} {nt bo r : Nat} (h0 : ∀ g i k, g = 26 ∧ i = 0 ∧ (k = 3 ∨ k = 4 ∨ k = 5 ∨ k = 8) → M0'.1 g i k = M0.1 g i k) (h : pB M0 nt bo r) : pB M0' nt bo r := by
  unfold pB at *
  rw [h0 26 0 3 (by omega), h0 26 0 4 (by omega), h0 26 0 5 (by omega), h0 26 0 8 (by omega)]
  exact h
theorem IB.fr {M0 M0' : wS} (h0 : ∀ g i k, (g = 5 ∨ (g = 27 ∧ i = 0) ∨ (g = 28 ∧ i = 0)) → M0'.1 g i k = M0.1 g i k) (h : IB M0) : IB M0' := by
  intro k hk
  rw [h0 5 k 0 (by omega), h0 5 k 1 (by omega), h0 5 k 2 (by omega), h0 27 0 k (by omega), h0 28 0 k (by omega)]
  exact h k hk
theorem rA.fr {M0 M0' M M' : wS} {nb nt : Nat} (h0 : ∀ g i k, (g = 5 ∨ g = 6 ∨ (g = 27 ∧ i = 0) ∨ (g = 28 ∧ i = 0) ∨ (g = 29 ∧ i = 0) ∨ (g = 26 ∧ i = 0 ∧ (k = 3 ∨ k = 4 ∨ k = 7 ∨ k = 8))) → M0'.1 g i k = M0.1 g i k) (h1 : ∀ g i k, ((34 ≤ g ∧ g ≤ 41) ∨ (g = 30 ∧ i = 0 ∧ (k = 12 ∨ k = 16 ∨ k = 17 ∨ k = 18 ∨ k = 21 ∨ k = 4))) → M'.1 g i k = M.1 g i k) (h : rA M0 M nb nt) : rA M0' M' nb nt := by
  unfold rA at *
  rw [h0 26 0 3 (by omega), h0 26 0 4 (by omega), h0 26 0 7 (by omega), h0 26 0 8 (by omega), h1 30 0 12 (by omega), h1 30 0 16 (by omega), h1 30 0 17 (by omega), h1 30 0 18 (by omega), h1 30 0 21 (by omega), h1 30 0 4 (by omega)]
  refine ⟨h.1, h.2.1, fun k hk => ?_⟩
  rw [h0 5 k 0 (by omega), h0 5 k 1 (by omega), h0 5 k 2 (by omega), h0 27 0 k (by omega), h0 28 0 k (by omega), h0 29 0 k (by omega), h0 6 k 0 (by omega), h0 6 k 1 (by omega), h1 34 0 k (by omega), h1 35 0 k (by omega), h1 36 0 k (by omega), h1 37 0 k (by omega), h1 38 0 k (by omega), h1 39 0 k (by omega), h1 40 0 k (by omega), h1 41 0 k (by omega)]
  exact h.2.2 k hk
theorem pY.fr {M0 M0' M M' : wS} (h0 : ∀ g i k, g = 26 ∧ i = 0 ∧ (k = 5 ∨ k = 6) → M0'.1 g i k = M0.1 g i k) (h1 : ∀ g i k, g = 30 ∧ i = 0 ∧ (k = 19 ∨ k = 20) → M'.1 g i k = M.1 g i k) (h : pY M0 M) : pY M0' M' := by
  unfold pY at *
  rw [h0 26 0 5 (by omega), h0 26 0 6 (by omega), h1 30 0 19 (by omega), h1 30 0 20 (by omega)]
  exact h
theorem pT.fr {M0 M0' M M' : wS} {z : Nat} (h0 : ∀ g i k, (g = 12 ∨ (g = 11 ∧ k = 1)) → M0'.1 g i k = M0.1 g i k) (h1 : ∀ g i k, (g = 33 ∨ (g = 30 ∧ i = 0 ∧ k = 6)) → M'.1 g i k = M.1 g i k) (h : pT M0 M z) : pT M0' M' z := by
  unfold pT at *
  rw [h0 11 0 1 (by omega), h1 30 0 6 (by omega)]
  refine ⟨h.1, h.2.1, h.2.2.1, fun k hk => ?_⟩
  rw [h0 12 0 k (by omega), h1 33 0 k (by omega)]
  exact h.2.2.2 k hk
theorem cOf_congr {f code code' : Nat → Int32} {z e1 e2 e3 : Nat} (h : ∀ j, code' j = code j) (hc : cOf f z code e1 e2 e3) : cOf f z code' e1 e2 e3 := ⟨hc.1, hc.2.1, hc.2.2.1, hc.2.2.2.1, fun j hj => (h j).trans (hc.2.2.2.2 j hj)⟩
theorem tX.fr {M0 M0' M M' : wS} {t : Nat} (h0 : ∀ g i k, ((g = 7 ∨ g = 8) ∧ i = t) → M0'.1 g i k = M0.1 g i k) (h1 : ∀ g i k, ((g = 31 ∧ 160 * t ≤ k ∧ k < 160 * t + 160) ∨ (g = 32 ∧ k = t)) → M'.1 g i k = M.1 g i k) (h : tX M0 M t) : tX M0' M' t := by
  obtain ⟨e1, e2, e3, h2, z, f, b1, b2, b3, b4, b5⟩ := h
  refine ⟨e1, e2, e3, ?_, z, f, ?_, b2, fun k hk => ?_, b4, cOf_congr (fun j => h0 8 t j (by omega)) b5⟩
  · rw [h0 7 t 1 (by omega), h0 7 t 2 (by omega), h0 7 t 3 (by omega)]
    exact h2
  · rw [h1 32 0 t (by omega)]; exact b1
  · rw [h1 31 0 (160 * t + k) (by omega)]; exact b3 k hk
theorem pX.fr {M0 M0' M M' : wS} {tc : Nat} (h0 : ∀ g i k, (g = 7 ∨ g = 8) → M0'.1 g i k = M0.1 g i k) (h1 : ∀ g i k, (g = 31 ∨ g = 32) → M'.1 g i k = M.1 g i k) (h : pX M0 M tc) : pX M0' M' tc := fun t ht => (h t ht).fr (fun g i k a => h0 g i k a.1) (fun g i k a => h1 g i k (by omega))
theorem rS1.fr {M0 M0' M M' : wS} {s : Nat} (h0 : ∀ g i k, ((g = 9 ∨ g = 10) ∧ i = s) → M0'.1 g i k = M0.1 g i k) (h1 : ∀ g i k, ((52 ≤ g ∧ g ≤ 54 ∧ k = s) ∨ (g = 55 ∧ 40 * s ≤ k ∧ k < 40 * s + 40)) → M'.1 g i k = M.1 g i k) (h : rS1 M0 M s) : rS1 M0' M' s := by
  obtain ⟨n, a1, a2, a3, a4⟩ := h
  refine ⟨n, a1, ?_, ?_, ?_⟩
  · rw [h0 9 s 2 (by omega)]; exact a2
  · rw [h0 9 s 1 (by omega), h1 52 0 s (by omega)]; exact a3
  · rw [h0 9 s 1 (by omega), h1 53 0 s (by omega), h1 54 0 s (by omega)]
    intro e
    obtain ⟨b1, b2, b3, b4⟩ := a4 e
    refine ⟨b1, b2, b3, fun j hj => ?_⟩
    rw [h0 10 s j (by omega), h1 55 0 (40 * s + j) (by omega)]
    exact b4 j hj
theorem pS.fr {M0 M0' M M' : wS} (h0 : ∀ g i k, (g = 9 ∨ g = 10) → M0'.1 g i k = M0.1 g i k) (h1 : ∀ g i k, (52 ≤ g ∧ g ≤ 55) → M'.1 g i k = M.1 g i k) (h : pS M0 M) : pS M0' M' := fun s hs => (h s hs).fr (fun g i k a => h0 g i k a.1) (fun g i k a => h1 g i k (by omega))
theorem pK.fr {M0 M0' M M' : wS} {nb nt tc nb' nt' tc' : Nat} (hb : nb ≤ nb') (ht : nt ≤ nt') (hc : tc ≤ tc') (h0 : ∀ g i k, ((26 ≤ g ∧ g ≤ 29 ∧ i = 1) ∨ (g = 0 ∧ k = 10)) → M0'.1 g i k = M0.1 g i k) (h1 : ∀ g i k, ((49 ≤ g ∧ g ≤ 51) ∨ (g = 30 ∧ i = 0 ∧ 49 ≤ k ∧ k ≤ 56)) → M'.1 g i k = M.1 g i k) (h : pK M0 M nb nt tc) : pK M0' M' nb' nt' tc' := by
  unfold pK at *
  rw [h0 0 0 10 (by omega), h1 30 0 49 (by omega), h0 26 1 9 (by omega), h0 26 1 10 (by omega)]
  rcases h with h | ⟨h, nbk, ntk, bk, rk, ⟨a1, a2, a3, a4⟩, c2, c3, c4, c5, c6⟩
  · exact Or.inl h
  · refine Or.inr ⟨h, nbk, ntk, bk, rk, ⟨by omega, by omega, by omega, a4⟩, ?_, ?_, ?_, fun k hk => ?_, fun k hk => ?_⟩
    · rw [h0 26 1 9 (by omega), h0 26 1 10 (by omega), h0 26 1 3 (by omega), h0 26 1 8 (by omega)]; exact c2
    · rw [h0 26 1 4 (by omega), h0 26 1 5 (by omega)]; exact c3
    · rw [h0 26 1 4 (by omega), h0 26 1 5 (by omega), h0 26 1 6 (by omega), h0 26 1 7 (by omega), h0 26 1 8 (by omega), h1 30 0 49 (by omega), h1 30 0 50 (by omega), h1 30 0 51 (by omega), h1 30 0 52 (by omega), h1 30 0 53 (by omega), h1 30 0 54 (by omega), h1 30 0 55 (by omega), h1 30 0 56 (by omega)]; exact c4
    · rw [h0 27 1 k (by omega), h0 28 1 k (by omega), h1 49 0 k (by omega), h1 50 0 k (by omega)]; exact c5 k hk
    · rw [h0 29 1 k (by omega), h1 51 0 k (by omega)]; exact c6 k hk
theorem IZ.fr {M0 M0' : wS} (h0 : ∀ g i k, (g = 18 ∨ g = 19 ∨ g = 20) ∧ i = 0 ∧ k = 0 → M0'.1 g i k = M0.1 g i k) (h : IZ M0) : IZ M0' := by
  unfold IZ at *
  rw [h0 18 0 0 (by omega), h0 19 0 0 (by omega), h0 20 0 0 (by omega)]
  exact h
/-- the class's memory, but for its scratch -/
def cE (M M' : wS) : Prop := ∀ g i k, g < 30 → (g ∉ [13, 14, 15, 16, 17, 18, 19, 20, 21, 22, 23, 24, 25] ∧ ¬ (g = 11 ∧ k ≠ 1)) ∨ ((g = 18 ∨ g = 19 ∨ g = 20) ∧ i = 0 ∧ k = 0) → M'.1 g i k = M.1 g i k
/-- the reference's memory, but for its scratch -/
def mE (M M' : wS) : Prop := ∀ g i k, 30 ≤ g → ¬ (42 ≤ g ∧ g ≤ 48) → ¬ (g = 30 ∧ ¬ (i = 0 ∧ (k < 22 ∨ 38 < k))) → M'.1 g i k = M.1 g i k
theorem RR.both {M0 M0' M M' : wS} {nb nt tc z bo r : Nat} (h0 : cE M0 M0') (h1 : mE M M') (h : RR M0 M nb nt tc z bo r) : RR M0' M' nb nt tc z bo r := by
  obtain ⟨c1, c2, c3, c4, c5, c6, c7, c8, c9, c10⟩ := h
  refine ⟨c1.fr (fun g i k e => h0 g i k (by omega) (Or.inl ⟨?_, by omega⟩)) (fun g i k e => h1 g i k (by omega) (by omega) (by omega)), c2.fr (fun g i k e => h0 g i k (by omega) (Or.inl ⟨?_, by omega⟩)), c3.fr (fun g i k e => h0 g i k (by omega) (Or.inl ⟨?_, by omega⟩)), c4.fr (fun g i k e => h0 g i k (by omega) (Or.inl ⟨?_, by omega⟩)) (fun g i k e => h1 g i k (by omega) (by omega) (by omega)), c5.fr (fun g i k e => h0 g i k (by omega) (Or.inl ⟨?_, by omega⟩)) (fun g i k e => h1 g i k (by omega) (by omega) (by omega)), c6.fr (fun g i k e => h0 g i k (by omega) (Or.inl ⟨?_, by omega⟩)) (fun g i k e => h1 g i k (by omega) (by omega) (by omega)), c7.fr (fun g i k e => h0 g i k (by omega) (Or.inl ⟨?_, by omega⟩)) (fun g i k e => h1 g i k (by omega) (by omega) (by omega)), c8.fr (fun g i k e => h0 g i k (by omega) (Or.inl ⟨?_, by omega⟩)) (fun g i k e => h1 g i k (by omega) (by omega) (by omega)), c9.fr (Nat.le_refl _) (Nat.le_refl _) (Nat.le_refl _) (fun g i k e => h0 g i k (by omega) (Or.inl ⟨?_, by omega⟩)) (fun g i k e => h1 g i k (by omega) (by omega) (by omega)), c10.fr (fun g i k e => h0 g i k (by omega) (Or.inr e))⟩
  all_goals (simp only [List.mem_cons, List.not_mem_nil, or_false]; omega)
theorem cE.rf {M : wS} : cE M M := fun _ _ _ _ _ => rfl
theorem mE.rf {M : wS} : mE M M := fun _ _ _ _ _ _ => rfl
theorem cE.tr {M M1 M2 : wS} (h : cE M M1) (h2 : cE M1 M2) : cE M M2 := fun g i k a b => (h2 g i k a b).trans (h g i k a b)
theorem mE.tr {M M1 M2 : wS} (h : mE M M1) (h2 : mE M1 M2) : mE M M2 := fun g i k a b c => (h2 g i k a b c).trans (h g i k a b c)
theorem Scr.cE {M M' : wS} (h : Scr M M') : cE M M' := by
  intro g i k hg hk
  rcases hk with ⟨h1, _⟩ | ⟨h1, rfl, rfl⟩
  · rw [h.1 g i (fun e => h1 (by revert e; simp only [List.mem_cons, List.not_mem_nil, or_false]; omega))]
  · rcases h1 with rfl | rfl | rfl
    · exact h.2.2.1
    · exact h.2.2.2.1
    · exact h.2.2.2.2
theorem Scr.mE {M M' : wS} (h : Scr M M') : mE M M' := by
  intro g i k hg _ _
  rw [h.1 g i (by simp only [List.mem_cons, List.not_mem_nil, or_false]; omega)]
theorem qF.mE {M M' : wS} (h : qF M M') : mE M M' := by
  intro g i k hg h1 h2
  by_cases e : g = 30
  · subst e
    obtain ⟨rfl, e3⟩ : i = 0 ∧ (k < 22 ∨ 38 < k) := Decidable.byContradiction (fun z => h2 ⟨rfl, z⟩)
    exact h.2 k e3
  · rw [h.1 g i e (by simp only [List.mem_cons, List.not_mem_nil, or_false]; omega)]
theorem qF.cE {M M' : wS} (h : qF M M') : cE M M' := by
  intro g i k hg _
  rw [h.1 g i (by omega) (by simp only [List.mem_cons, List.not_mem_nil, or_false]; omega)]
theorem RR.rC {M0 M : wS} {nb nt tc z bo r : Nat} (h : RR M0 M nb nt tc z bo r) : ∃ e1 e2 e3, rC M0 M nb nt r e1 e2 e3 := by
  obtain ⟨c1, c2, c3, c4, c5, c6, c7, c8, c9, c10⟩ := h
  obtain ⟨e1, e2, e3, h2, hT⟩ := c7 r c1.2.2.1.2.1
  obtain ⟨z', f, b1, b2, b3, b4, b5⟩ := id hT
  have hv := cOf_val b2 b5 (fun _ => 0)
  exact ⟨e1, e2, e3, ⟨c1.1, c1.2.1, ⟨c2.2.2.2, by have := c1.2.2.1; omega, h2.1, h2.2.1, h2.2.2, hv.2.2.2.1, hv.2.2.2.2.1, hv.2.2.2.2.2⟩, c3, c2.2.1⟩, c4, hT⟩
theorem unb_lt : ∀ n, n < 8 → ∀ b, b < 128 → (2 ^ n - 1) &&& (127 ^^^ b) < 2 ^ n ∧ (2 ^ n - 1) &&& (127 ^^^ b) < 128 := by decide +kernel
theorem RR.uO {M0 M : wS} {nb nt tc z bo r : Nat} (h : RR M0 M nb nt tc z bo r) : bo < 128 ∧ uO M0 nt ((2 ^ nt - 1) &&& (127 ^^^ bo)) := by
  obtain ⟨c1, c2, -⟩ := h
  have h8 := pow8 nt (by have := c1.2.1.2; omega)
  have hb : bo < 128 := by have := c2.1.2; omega
  refine ⟨hb, ?_, unb_lt nt (by have := c1.2.1.2; omega) bo hb⟩
  unfold kUnb
  rw [c1.2.1.1, c2.1.1]
  exact unb_i nt (by have := c1.2.1.2; omega) bo hb
