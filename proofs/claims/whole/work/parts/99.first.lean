/-! the first memory: the two sides tell the same -/
theorem t0_eq : gFl bR 56 cA = -1 ∧ cC1 bR 56 = cC1 (fB 51) 51 ∧ cC2 bR 56 = cC2 (fB 51) 51 ∧ cC3 bR 56 = cC3 (fB 51) 51 := by decide +kernel
theorem bR_0 : ∀ k, k < 56 → 0 ≤ bR k := by decide +kernel
theorem RR.first {M M' : wS} (hC : IC M) (hR : IR (M0m M) M') : RR M' M' 0 0 1 0 0 0 := by
  have hc : ∀ g i k, g < 30 → M'.1 g i k = M.1 g i k := fun g i k h => by rw [hR.1 g i k (by omega) (by omega) (by omega), M0m_30 M g i h]
  have Z : ∀ g i k, (g < 30 ∧ g ≠ 7 ∧ g ≠ 8 ∧ g ≠ 11 ∧ g ≠ 12 ∧ g ≠ 13 ∧ ¬ (g = 26 ∧ i = 0 ∧ k = 7) ∧ ¬ (g = 0 ∧ i = 0 ∧ k = 13)) → M'.1 g i k = M00.1 g i k := fun g i k h => by
    rw [hc g i k h.1]
    exact hC.1 g i k h.2.1 h.2.2.1 h.2.2.2.1 h.2.2.2.2.1 h.2.2.2.2.2.1 h.2.2.2.2.2.2.1 h.2.2.2.2.2.2.2
  have N : ∀ g i k, (30 ≤ g ∧ g ≠ 31 ∧ g ≠ 32 ∧ ¬ (g = 30 ∧ k = 3)) → M'.1 g i k = (M0m M).1 g i k := fun g i k h => hR.1 g i k h.2.1 h.2.2.1 h.2.2.2
  have h267 : M'.1 26 0 7 = 9 := (hc 26 0 7 (by decide)).trans hC.2.1
  have z3 : M'.1 26 0 3 = 0 := Z 26 0 3 (by omega)
  have z4 : M'.1 26 0 4 = 0 := Z 26 0 4 (by omega)
  have z5 : M'.1 26 0 5 = 0 := Z 26 0 5 (by omega)
  have z6 : M'.1 26 0 6 = 0 := Z 26 0 6 (by omega)
  have z8 : M'.1 26 0 8 = 0 := Z 26 0 8 (by omega)
  refine ⟨⟨⟨Z 0 0 11 (by omega), by decide⟩, ⟨Z 0 0 12 (by omega), by decide⟩, ⟨(hc 0 0 13 (by decide)).trans hC.2.2.1, by decide, by decide⟩, hR.2.1⟩, ⟨⟨z3, by decide⟩, ⟨by rw [z4]; decide, by rw [z4]; decide⟩, ⟨by rw [z5]; decide, by rw [z5]; decide⟩, z8⟩, fun k hk => ?_, ⟨⟨N 30 0 12 (by omega), N 30 0 16 (by omega)⟩, ⟨?_, ?_, ?_, ?_⟩, fun k hk => ⟨⟨?_, ?_, ?_, ?_, ?_⟩, ?_, ?_, ?_⟩⟩, ⟨?_, ?_⟩, ⟨(hc 11 0 1 (by decide)).trans hC.2.2.2.1, by decide, N 30 0 6 (by omega), fun k hk => absurd hk (Nat.not_lt_zero k)⟩, fun t ht => ?_, fun k hk => ?_, Or.inl ⟨Z 0 0 10 (by omega), N 30 0 49 (by omega), Z 26 1 9 (by omega), Z 26 1 10 (by omega)⟩, ⟨Z 18 0 0 (by omega), Z 19 0 0 (by omega), Z 20 0 0 (by omega)⟩⟩
  · rw [Z 5 k 0 (by omega), Z 5 k 1 (by omega), Z 5 k 2 (by omega), Z 27 0 k (by omega), Z 28 0 k (by omega)]
    show ((0 : Int32) ≤ 0 ∧ (0 : Int32) ≤ 5) ∧ ((0 : Int32) ≤ 0 ∧ (0 : Int32) ≤ 51) ∧ ((0 : Int32) ≤ 0 ∧ (0 : Int32) ≤ 9) ∧ ((0 : Int32) ≤ 0 ∧ (0 : Int32) ≤ 99) ∧ ((0 : Int32) ≤ 0 ∧ (0 : Int32) ≤ 99)
    decide
  · rw [z3]; exact N 30 0 17 (by omega)
  · rw [z4]; exact N 30 0 18 (by omega)
  · rw [h267]; exact N 30 0 21 (by omega)
  · rw [z8]; exact N 30 0 4 (by omega)
  · rw [Z 5 k 0 (by omega)]; exact N 34 0 k (by omega)
  · rw [Z 5 k 1 (by omega)]; exact N 35 0 k (by omega)
  · rw [Z 27 0 k (by omega)]; exact N 36 0 k (by omega)
  · rw [Z 28 0 k (by omega)]; exact N 37 0 k (by omega)
  · rw [Z 5 k 2 (by omega)]; exact N 38 0 k (by omega)
  · rw [Z 6 k 0 (by omega)]; exact N 39 0 k (by omega)
  · rw [Z 6 k 1 (by omega)]; exact N 40 0 k (by omega)
  · rw [Z 29 0 k (by omega)]; exact N 41 0 k (by omega)
  · rw [z5]; exact N 30 0 19 (by omega)
  · rw [z6]; exact N 30 0 20 (by omega)
  · obtain rfl : t = 0 := by omega
    obtain ⟨⟨a1, a2, a3⟩, a4⟩ := hC.2.2.2.2
    refine ⟨_, _, _, ⟨(hc 7 0 1 (by decide)).trans a1, (hc 7 0 2 (by decide)).trans a2, (hc 7 0 3 (by decide)).trans a3⟩, 56, bR, hR.2.2.1, by decide, fun k hk => ?_, bR_0, t0_eq.1, by rw [t0_eq.2.1], by rw [t0_eq.2.2.1], by rw [t0_eq.2.2.2], fun j hj => ?_⟩
    · rw [Nat.mul_zero, Nat.zero_add]; exact hR.2.2.2 k hk
    · rw [t0_eq.2.2.2] at hj ⊢
      exact (hc 8 0 j (by decide)).trans (a4 j hj)
  · refine ⟨0, by decide, Z 9 k 2 (by omega), ?_, fun y => absurd (Z 9 k 1 (by omega)) y⟩
    rw [Z 9 k 1 (by omega)]
    exact (N 52 0 k (by omega)).trans (bI_f (fun y => y rfl))
